/-! undo, again, putsBy of the reference, by hand, printed by wip/x/h_undo.py -/
set_option maxRecDepth 6000 in
theorem x41 : ((Int8.ofInt 41).toInt32).toInt = 41 := by decide
set_option maxRecDepth 6000 in
theorem xmod_eq {m : Int} {w p a b : Nat} {v : Int} {sg : List (Nat × xe)} (h : xeG m w v (xat sg (a % p))) (e : a % p = b % p) : xeG m w v (xat sg (b % p)) := e ▸ h
def xgA_VR : List Nat := [9, 6, 3, 23, 24, 45, 49, 50, 54, 47, 62, 65, 66, 33, 34, 35, 36, 37, 39, 40, 41, 42, 43, 105, 106, 107, 108, 109, 111, 112, 113, 114, 115, 117, 118, 119, 120, 121, 78, 83, 59, 60, 51, 52, 7]
def xgF_VR : List (Nat × Nat) := (0, 14) :: [(0, 23), (44, 1), (0, 8), (31, 13), (31, 14), (32, 0), (32, 1), (32, 2), (32, 3), (32, 4), (32, 5), (32, 6), (32, 7), (38, 0), (38, 1), (38, 2), (38, 3), (38, 4), (38, 5), (38, 6), (38, 7), (46, 1), (48, 0), (48, 1), (48, 2), (48, 3), (48, 4), (53, 4), (58, 0), (58, 1), (58, 2), (58, 3), (58, 4), (61, 2), (64, 2), (77, 1), (77, 3), (77, 5), (77, 6), (77, 7), (82, 1), (82, 3), (82, 5), (82, 6), (82, 7), (104, 0), (104, 1), (104, 2), (104, 3), (104, 4), (104, 5), (104, 6), (104, 7), (110, 0), (110, 1), (110, 2), (110, 3), (110, 4), (110, 5), (110, 6), (110, 7), (116, 0), (116, 1), (116, 2), (116, 3), (116, 4), (116, 5), (116, 6), (116, 7), (53, 1), (53, 2), (63, 2), (63, 3), (0, 3), (0, 4), (0, 5), (0, 6), (0, 39)]
set_option maxRecDepth 6000 in
theorem xHEVR : xHE xX xgA_VR xgF_VR xV := xHE_sub (by decide +kernel) (by decide +kernel) xHEV
set_option maxRecDepth 6000 in
theorem xINV_27 {n : Nat} {ph ph' : pm_H} {y : Int32} (h : xINV n ph) (u : xu1 ph ph' 170 27 (.int y)) (hy : ∀ U : Int32, xget ph 170 27 = some (.int U) → ∀ k : Nat, (k : Int) < y.toInt → (k : Int) < U.toInt) : xINV n ph' := by
  obtain ⟨W, P, T, U, C, ⟨f1, f2, f3, f4, f5⟩, ⟨b1, b2, b3, b4⟩, g1, g2, g3⟩ := h
  have hf : ∀ k, k ≠ 27 → xget ph' 170 k = xget ph 170 k := fun k hk => u.2.1 170 k (fun q => hk q.2)
  have ha : ∀ a, a ≠ 170 → pm_at ph' a = pm_at ph a := u.2.2
  refine ⟨W, P, T, y, C, ⟨(hf 4 (by decide)).trans f1, (hf 5 (by decide)).trans f2, (hf 6 (by decide)).trans f3, u.1, (hf 7 (by decide)).trans f5⟩, ⟨b1, b2, b3, b4⟩, xgr_eq b1 b2 (fun k _ => xget_at (ha 174 (by decide)) _) g1, fun k hk => xgr_eq b1 b2 (fun c _ => xget_at (ha 183 (by decide)) _) (g2 k (hy U f4 k hk)), fun i hi z hz hz0 => ?_⟩
  obtain ⟨K, k1, k2, k3⟩ := g3 i hi z (xgb_eq (ha 198 (by decide)) hz) hz0
  exact ⟨K, (xget_at (ha 199 (by decide)) i).trans k1, k2, fun e => xgr_eq b1 b2 (fun c _ => xget_at (ha 200 (by decide)) _) (k3 e)⟩
def xrowG (ph : pm_H) (a off : Nat) : Prop := ∀ W P T : Int32, xget ph 170 4 = some (.int W) → xget ph 170 5 = some (.int P) → xget ph 170 6 = some (.int T) → P.toInt ≤ 8 → T.toInt ≤ 8 → xgr ph W P T a off
set_option maxRecDepth 6000 in
theorem xINV_now {n sA sO : Nat} {ph ph' : pm_H} (h : xINV n ph) (c : xcp ph ph' 174 0 sA sO 41) (hg : xrowG ph sA sO) : xINV n ph' := by
  obtain ⟨W, P, T, U, C, ⟨f1, f2, f3, f4, f5⟩, ⟨b1, b2, b3, b4⟩, g1, g2, g3⟩ := h
  have hf : ∀ k, xget ph' 170 k = xget ph 170 k := fun k => c.2.1 170 k (fun q => absurd q.1 (by decide))
  have ha : ∀ a, a ≠ 174 → pm_at ph' a = pm_at ph a := c.2.2
  refine ⟨W, P, T, U, C, ⟨(hf 4).trans f1, (hf 5).trans f2, (hf 6).trans f3, (hf 27).trans f4, (hf 7).trans f5⟩, ⟨b1, b2, b3, b4⟩, xgr_cp b1 b2 c.1 (hg W P T f1 f2 f3 b1 b2), fun k hk => xgr_eq b1 b2 (fun c _ => xget_at (ha 183 (by decide)) _) (g2 k hk), fun i hi z hz hz0 => ?_⟩
  obtain ⟨K, k1, k2, k3⟩ := g3 i hi z (xgb_eq (ha 198 (by decide)) hz) hz0
  exact ⟨K, (xget_at (ha 199 (by decide)) i).trans k1, k2, fun e => xgr_eq b1 b2 (fun c _ => xget_at (ha 200 (by decide)) _) (k3 e)⟩
set_option maxRecDepth 6000 in
theorem xINV_row {n u : Nat} {ph : pm_H} {U : Int32} (h : xINV n ph) (q : xget ph 170 27 = some (.int U)) (hu : (u : Int) < U.toInt) : xrowG ph 183 (41 * u) := by
  obtain ⟨W, P, T, U2, C, ⟨f1, f2, f3, f4, f5⟩, -, -, g2, -⟩ := h
  intro W2 P2 T2 h1 h2 h3 _ _
  have e1 := xget_int f1 h1
  have e2 := xget_int f2 h2
  have e3 := xget_int f3 h3
  have e4 := xget_int f4 q
  subst e1 e2 e3 e4
  exact g2 u hu
set_option maxRecDepth 6000 in
theorem xINV_kept {n i : Nat} {ph : pm_H} {y K C : Int32} (h : xINV n ph) (hi : i < 3) (hy : xgb ph 198 i y) (hy0 : y.toInt ≠ 0) (hK : xget ph 199 i = some (.int K)) (hC : xget ph 170 7 = some (.int C)) (e : K.toInt = C.toInt) : xrowG ph 200 (41 * i) := by
  obtain ⟨W, P, T, U, C2, ⟨f1, f2, f3, f4, f5⟩, -, -, -, g3⟩ := h
  intro W2 P2 T2 h1 h2 h3 _ _
  have e1 := xget_int f1 h1
  have e2 := xget_int f2 h2
  have e3 := xget_int f3 h3
  have e4 := xget_int f5 hC
  subst e1 e2 e3 e4
  obtain ⟨K2, k1, -, k3⟩ := g3 i hi y hy hy0
  have e5 := xget_int k1 hK
  subst e5
  exact k3 e
set_option maxRecDepth 6000 in
theorem xrowG_eq {ph ph' : pm_H} {a off : Nat} (ha : ∀ c, xget ph' a c = xget ph a c) (hf : ∀ k, k < 7 → xget ph' 170 k = xget ph 170 k) (g : xrowG ph a off) : xrowG ph' a off := fun W P T h1 h2 h3 b1 b2 => xgr_eq b1 b2 (fun _ _ => ha _) (g W P T ((hf 4 (by decide)).symm.trans h1) ((hf 5 (by decide)).symm.trans h2) ((hf 6 (by decide)).symm.trans h3) b1 b2)

set_option maxRecDepth 6000 in
theorem xcl_undo {E : pm_H → Prop} {gA : List Nat} {gF : List (Nat × Nat)} (hE : xHE xX gA gF E) (hgA : xmemN gA 4 = false) (hgF : ∀ k, xmemP gF 4 k = false) {m : Int} {w D : Nat} {Q : Option Value → pm_H → Prop} {y : Int32} {u : Nat} (hu : u ≤ 15) (hy : y.toInt = (u : Int)) {ph0 : pm_H} (q27 : xget ph0 170 27 = some (.int y)) (hQ : ∀ (ph' : pm_H) (x : Int32), xH xX kK m w ph' → E ph' → xcp ph0 ph' 174 0 183 (41 * u) 41 → xGT kK D 241 Q (58, [some (.ref 170), some (.int x)], [], ph', 0, 0)) : ∀ (s i : Nat) (x : Int32) (ph : pm_H), 41 - i < s → i ≤ 41 → x.toInt = (i : Int) → xH xX kK m w ph → E ph → xcp ph0 ph 174 0 183 (41 * u) i → xGT kK D 241 Q (26, [some (.ref 170), some (.int x)], [], ph, 0, 0) := by
  intro s
  induction s with
  | zero => intro i x ph h; omega
  | succ s ih =>
    intro i x ph hs hi hx hP g9 hc
    have qk : xget ph 170 27 = some (.int y) := (hc.2.1 170 27 (fun q => absurd q.1 (by decide))).trans q27
    by_cases hin : i = 41
    · subst hin
      refine gt_load (v := .int x) (n := 1) (ykc_241 (e := (2, .iload_n kF1, 0)) rfl) rfl rfl ?_
      refine gt_push (v := .int ((Int8.ofInt 41).toInt32)) (n := 2) (ykc_241 (e := (1, .bipush 41, 0)) rfl) rfl rfl ?_
      refine gt_ige_t (ykc_241 (e := (4, .if_icmp .ge 29, 58)) rfl) (by rw [x41]; omega) ?_
      exact hQ ph x hP g9 hc
    · have hi2 : i < 41 := by omega
      refine gt_load (v := .int x) (n := 1) (ykc_241 (e := (2, .iload_n kF1, 0)) rfl) rfl rfl ?_
      refine gt_push (v := .int ((Int8.ofInt 41).toInt32)) (n := 2) (ykc_241 (e := (1, .bipush 41, 0)) rfl) rfl rfl ?_
      refine gt_ige_f (ykc_241 (e := (4, .if_icmp .ge 29, 58)) rfl) (by rw [x41]; omega) rfl ?_
      refine gt_load (v := .ref 170) (n := 1) (ykc_241 (e := (2, .aload_n kF0, 0)) rfl) rfl rfl ?_
      refine gt_gfr (A := 174) (ykc_241 (e := (5, .getfield 41, 0)) rfl) rfl hP rfl rfl rfl ?_
      refine gt_load (v := .int x) (n := 1) (ykc_241 (e := (2, .iload_n kF1, 0)) rfl) rfl rfl ?_
      refine gt_load (v := .ref 170) (n := 1) (ykc_241 (e := (2, .aload_n kF0, 0)) rfl) rfl rfl ?_
      refine gt_gfr (A := 183) (ykc_241 (e := (5, .getfield 68, 0)) rfl) rfl hP rfl rfl rfl ?_
      refine gt_push (v := .int ((Int8.ofInt 41).toInt32)) (n := 2) (ykc_241 (e := (1, .bipush 41, 0)) rfl) rfl rfl ?_
      refine gt_load (v := .ref 170) (n := 1) (ykc_241 (e := (2, .aload_n kF0, 0)) rfl) rfl rfl ?_
      refine gt_gfk (v := .int y) (ykc_241 (e := (5, .getfield 188, 0)) rfl) rfl hP qk rfl ?_
      obtain ⟨y1, e_y1, h_y1⟩ : ∃ zq : Int32, ((Int8.ofInt 41).toInt32) * y = zq ∧ zq.toInt = 41 * y.toInt := ⟨_, rfl, by rw [ti_mul (by rw [x41]; omega) (by rw [x41]; omega), x41]⟩
      refine gt_alu (st' := [.int y1, .ref 183, .int x, .ref 174]) (ykc_241 (e := (0, .imul, 0)) rfl) (by rw [← e_y1]; exact rfl) rfl ?_
      refine gt_load (v := .int x) (n := 1) (ykc_241 (e := (2, .iload_n kF1, 0)) rfl) rfl rfl ?_
      obtain ⟨y2, e_y2, h_y2⟩ : ∃ zq : Int32, y1 + x = zq ∧ zq.toInt = 41 * y.toInt + x.toInt := ⟨_, rfl, by rw [ti_add (by rw [h_y1]; omega) (by rw [h_y1]; omega), h_y1]⟩
      refine gt_alu (st' := [.int y2, .ref 183, .int x, .ref 174]) (ykc_241 (e := (0, .iadd, 0)) rfl) (by rw [← e_y2]; exact rfl) rfl ?_
      refine gt_ial (A := 183) (ykc_241 (e := (5, .iaload, 0)) rfl) hP rfl rfl (by omega) (by omega) rfl (fun e0 g_e0 b_e0 => ?_)
      refine gt_ias (A := 174) (y := e0) (x := x) (ykc_241 (e := (5, .iastore, 0)) rfl) hP rfl rfl (by omega) (by omega) (xmod_eq b_e0 (by omega)) rfl (fun ph101 hP101 u101 => ?_)
      have f101_27 : xget ph101 170 27 = some (.int y) := (u101.2.1 170 27 (fun q => absurd q.1 (by decide))).trans qk
      obtain ⟨x1, e_x1, h_x1⟩ : ∃ zq : Int32, x + Int32.ofInt 1 = zq ∧ zq.toInt = x.toInt + 1 := ⟨_, rfl, by rw [ti_add (by rw [xi1]; omega) (by rw [xi1]; omega), xi1]⟩
      refine gt_store (L' := [some (.ref 170), some (.int x1)]) (st' := []) (n := 3) (ykc_241 (e := (3, .iinc 1 1, 0)) rfl) (by rw [← e_x1]; rfl) rfl ?_
      refine gt_br (pc' := 26) (st' := []) (ykc_241 (e := (4, .goto (-29), 26)) rfl) rfl ?_
      have es : y2.toInt.toNat = (41 * u) + i := by omega
      have ed : x.toInt.toNat = 0 + i := by omega
      have w1 : xget ph 183 ((41 * u) + i) = some (.int e0) := by rw [← es]; exact g_e0
      have w2 := u101
      rw [ed] at w2
      exact ih (i + 1) x1 _ (by omega) (by omega) (by omega) hP101 (xu1_E hE w2 (i := 4) rfl hgA (hgF _) g9) (xcp_s hc (by decide) w1 w2)

set_option maxRecDepth 6000 in
theorem xcl_again {E : pm_H → Prop} {gA : List Nat} {gF : List (Nat × Nat)} (hE : xHE xX gA gF E) (hgA : xmemN gA 4 = false) (hgF : ∀ k, xmemP gF 4 k = false) {m : Int} {w D : Nat} {Q : Option Value → pm_H → Prop} {y : Int32} {u : Nat} (hu : u ≤ 2) (hy : y.toInt = (u : Int)) {ph0 : pm_H} (hQ : ∀ (ph' : pm_H) (x : Int32), xH xX kK m w ph' → E ph' → xcp ph0 ph' 174 0 200 (41 * u) 41 → xGT kK D 297 Q (72, [some (.ref 170), some (.int y), some (.int x)], [], ph', 0, 0)) : ∀ (s i : Nat) (x : Int32) (ph : pm_H), 41 - i < s → i ≤ 41 → x.toInt = (i : Int) → xH xX kK m w ph → E ph → xcp ph0 ph 174 0 200 (41 * u) i → xGT kK D 297 Q (43, [some (.ref 170), some (.int y), some (.int x)], [], ph, 0, 0) := by
  intro s
  induction s with
  | zero => intro i x ph h; omega
  | succ s ih =>
    intro i x ph hs hi hx hP g9 hc
    by_cases hin : i = 41
    · subst hin
      refine gt_load (v := .int x) (n := 1) (ykc_297 (e := (2, .iload_n kF2, 0)) rfl) rfl rfl ?_
      refine gt_push (v := .int ((Int8.ofInt 41).toInt32)) (n := 2) (ykc_297 (e := (1, .bipush 41, 0)) rfl) rfl rfl ?_
      refine gt_ige_t (ykc_297 (e := (4, .if_icmp .ge 26, 72)) rfl) (by rw [x41]; omega) ?_
      exact hQ ph x hP g9 hc
    · have hi2 : i < 41 := by omega
      refine gt_load (v := .int x) (n := 1) (ykc_297 (e := (2, .iload_n kF2, 0)) rfl) rfl rfl ?_
      refine gt_push (v := .int ((Int8.ofInt 41).toInt32)) (n := 2) (ykc_297 (e := (1, .bipush 41, 0)) rfl) rfl rfl ?_
      refine gt_ige_f (ykc_297 (e := (4, .if_icmp .ge 26, 72)) rfl) (by rw [x41]; omega) rfl ?_
      refine gt_load (v := .ref 170) (n := 1) (ykc_297 (e := (2, .aload_n kF0, 0)) rfl) rfl rfl ?_
      refine gt_gfr (A := 174) (ykc_297 (e := (5, .getfield 41, 0)) rfl) rfl hP rfl rfl rfl ?_
      refine gt_load (v := .int x) (n := 1) (ykc_297 (e := (2, .iload_n kF2, 0)) rfl) rfl rfl ?_
      refine gt_load (v := .ref 170) (n := 1) (ykc_297 (e := (2, .aload_n kF0, 0)) rfl) rfl rfl ?_
      refine gt_gfr (A := 200) (ykc_297 (e := (5, .getfield 119, 0)) rfl) rfl hP rfl rfl rfl ?_
      refine gt_push (v := .int ((Int8.ofInt 41).toInt32)) (n := 2) (ykc_297 (e := (1, .bipush 41, 0)) rfl) rfl rfl ?_
      refine gt_load (v := .int y) (n := 1) (ykc_297 (e := (2, .iload_n kF1, 0)) rfl) rfl rfl ?_
      obtain ⟨y1, e_y1, h_y1⟩ : ∃ zq : Int32, ((Int8.ofInt 41).toInt32) * y = zq ∧ zq.toInt = 41 * y.toInt := ⟨_, rfl, by rw [ti_mul (by rw [x41]; omega) (by rw [x41]; omega), x41]⟩
      refine gt_alu (st' := [.int y1, .ref 200, .int x, .ref 174]) (ykc_297 (e := (0, .imul, 0)) rfl) (by rw [← e_y1]; exact rfl) rfl ?_
      refine gt_load (v := .int x) (n := 1) (ykc_297 (e := (2, .iload_n kF2, 0)) rfl) rfl rfl ?_
      obtain ⟨y2, e_y2, h_y2⟩ : ∃ zq : Int32, y1 + x = zq ∧ zq.toInt = 41 * y.toInt + x.toInt := ⟨_, rfl, by rw [ti_add (by rw [h_y1]; omega) (by rw [h_y1]; omega), h_y1]⟩
      refine gt_alu (st' := [.int y2, .ref 200, .int x, .ref 174]) (ykc_297 (e := (0, .iadd, 0)) rfl) (by rw [← e_y2]; exact rfl) rfl ?_
      refine gt_ial (A := 200) (ykc_297 (e := (5, .iaload, 0)) rfl) hP rfl rfl (by omega) (by omega) rfl (fun e0 g_e0 b_e0 => ?_)
      refine gt_ias (A := 174) (y := e0) (x := x) (ykc_297 (e := (5, .iastore, 0)) rfl) hP rfl rfl (by omega) (by omega) (xmod_eq b_e0 (by omega)) rfl (fun ph101 hP101 u101 => ?_)
      obtain ⟨x1, e_x1, h_x1⟩ : ∃ zq : Int32, x + Int32.ofInt 1 = zq ∧ zq.toInt = x.toInt + 1 := ⟨_, rfl, by rw [ti_add (by rw [xi1]; omega) (by rw [xi1]; omega), xi1]⟩
      refine gt_store (L' := [some (.ref 170), some (.int y), some (.int x1)]) (st' := []) (n := 3) (ykc_297 (e := (3, .iinc 2 1, 0)) rfl) (by rw [← e_x1]; rfl) rfl ?_
      refine gt_br (pc' := 43) (st' := []) (ykc_297 (e := (4, .goto (-26), 43)) rfl) rfl ?_
      have es : y2.toInt.toNat = (41 * u) + i := by omega
      have ed : x.toInt.toNat = 0 + i := by omega
      have w1 : xget ph 200 ((41 * u) + i) = some (.int e0) := by rw [← es]; exact g_e0
      have w2 := u101
      rw [ed] at w2
      exact ih (i + 1) x1 _ (by omega) (by omega) (by omega) hP101 (xu1_E hE w2 (i := 4) rfl hgA (hgF _) g9) (xcp_s hc (by decide) w1 w2)

set_option maxRecDepth 6000 in
theorem xcl_puts {E : pm_H → Prop} {gA : List Nat} {gF : List (Nat × Nat)} (hE : xHE xX gA gF E) (hgA : xmemN gA 13 = false) (hgF : ∀ k, xmemP gF 13 k = false) {m : Int} {w D : Nat} {Q : Option Value → pm_H → Prop} {y : Int32} {u : Nat} (hu : u ≤ 15) (hy : y.toInt = (u : Int)) {ph0 : pm_H} (q27 : xget ph0 170 27 = some (.int y)) (hQ : ∀ (ph' : pm_H) (x : Int32), xH xX kK m w ph' → E ph' → xcp ph0 ph' 183 (41 * u) 174 0 41 → xGT kK D 238 Q (34, [some (.ref 170), some (.int x)], [], ph', 0, 0)) : ∀ (s i : Nat) (x : Int32) (ph : pm_H), 41 - i < s → i ≤ 41 → x.toInt = (i : Int) → xH xX kK m w ph → E ph → xcp ph0 ph 183 (41 * u) 174 0 i → xGT kK D 238 Q (2, [some (.ref 170), some (.int x)], [], ph, 0, 0) := by
  intro s
  induction s with
  | zero => intro i x ph h; omega
  | succ s ih =>
    intro i x ph hs hi hx hP g9 hc
    have qk : xget ph 170 27 = some (.int y) := (hc.2.1 170 27 (fun q => absurd q.1 (by decide))).trans q27
    by_cases hin : i = 41
    · subst hin
      refine gt_load (v := .int x) (n := 1) (ykc_238 (e := (2, .iload_n kF1, 0)) rfl) rfl rfl ?_
      refine gt_push (v := .int ((Int8.ofInt 41).toInt32)) (n := 2) (ykc_238 (e := (1, .bipush 41, 0)) rfl) rfl rfl ?_
      refine gt_ige_t (ykc_238 (e := (4, .if_icmp .ge 29, 34)) rfl) (by rw [x41]; omega) ?_
      exact hQ ph x hP g9 hc
    · have hi2 : i < 41 := by omega
      refine gt_load (v := .int x) (n := 1) (ykc_238 (e := (2, .iload_n kF1, 0)) rfl) rfl rfl ?_
      refine gt_push (v := .int ((Int8.ofInt 41).toInt32)) (n := 2) (ykc_238 (e := (1, .bipush 41, 0)) rfl) rfl rfl ?_
      refine gt_ige_f (ykc_238 (e := (4, .if_icmp .ge 29, 34)) rfl) (by rw [x41]; omega) rfl ?_
      refine gt_load (v := .ref 170) (n := 1) (ykc_238 (e := (2, .aload_n kF0, 0)) rfl) rfl rfl ?_
      refine gt_gfr (A := 183) (ykc_238 (e := (5, .getfield 68, 0)) rfl) rfl hP rfl rfl rfl ?_
      refine gt_push (v := .int ((Int8.ofInt 41).toInt32)) (n := 2) (ykc_238 (e := (1, .bipush 41, 0)) rfl) rfl rfl ?_
      refine gt_load (v := .ref 170) (n := 1) (ykc_238 (e := (2, .aload_n kF0, 0)) rfl) rfl rfl ?_
      refine gt_gfk (v := .int y) (ykc_238 (e := (5, .getfield 188, 0)) rfl) rfl hP qk rfl ?_
      obtain ⟨y1, e_y1, h_y1⟩ : ∃ zq : Int32, ((Int8.ofInt 41).toInt32) * y = zq ∧ zq.toInt = 41 * y.toInt := ⟨_, rfl, by rw [ti_mul (by rw [x41]; omega) (by rw [x41]; omega), x41]⟩
      refine gt_alu (st' := [.int y1, .ref 183]) (ykc_238 (e := (0, .imul, 0)) rfl) (by rw [← e_y1]; exact rfl) rfl ?_
      refine gt_load (v := .int x) (n := 1) (ykc_238 (e := (2, .iload_n kF1, 0)) rfl) rfl rfl ?_
      obtain ⟨y2, e_y2, h_y2⟩ : ∃ zq : Int32, y1 + x = zq ∧ zq.toInt = 41 * y.toInt + x.toInt := ⟨_, rfl, by rw [ti_add (by rw [h_y1]; omega) (by rw [h_y1]; omega), h_y1]⟩
      refine gt_alu (st' := [.int y2, .ref 183]) (ykc_238 (e := (0, .iadd, 0)) rfl) (by rw [← e_y2]; exact rfl) rfl ?_
      refine gt_load (v := .ref 170) (n := 1) (ykc_238 (e := (2, .aload_n kF0, 0)) rfl) rfl rfl ?_
      refine gt_gfr (A := 174) (ykc_238 (e := (5, .getfield 41, 0)) rfl) rfl hP rfl rfl rfl ?_
      refine gt_load (v := .int x) (n := 1) (ykc_238 (e := (2, .iload_n kF1, 0)) rfl) rfl rfl ?_
      refine gt_ial (A := 174) (ykc_238 (e := (5, .iaload, 0)) rfl) hP rfl rfl (by omega) (by omega) rfl (fun e0 g_e0 b_e0 => ?_)
      refine gt_ias (A := 183) (y := e0) (x := y2) (ykc_238 (e := (5, .iastore, 0)) rfl) hP rfl rfl (by omega) (by omega) (xmod_eq b_e0 (by omega)) rfl (fun ph101 hP101 u101 => ?_)
      have f101_27 : xget ph101 170 27 = some (.int y) := (u101.2.1 170 27 (fun q => absurd q.1 (by decide))).trans qk
      obtain ⟨x1, e_x1, h_x1⟩ : ∃ zq : Int32, x + Int32.ofInt 1 = zq ∧ zq.toInt = x.toInt + 1 := ⟨_, rfl, by rw [ti_add (by rw [xi1]; omega) (by rw [xi1]; omega), xi1]⟩
      refine gt_store (L' := [some (.ref 170), some (.int x1)]) (st' := []) (n := 3) (ykc_238 (e := (3, .iinc 1 1, 0)) rfl) (by rw [← e_x1]; rfl) rfl ?_
      refine gt_br (pc' := 2) (st' := []) (ykc_238 (e := (4, .goto (-29), 2)) rfl) rfl ?_
      have es : x.toInt.toNat = 0 + i := by omega
      have ed : y2.toInt.toNat = (41 * u) + i := by omega
      have w1 : xget ph 174 (0 + i) = some (.int e0) := by rw [← es]; exact g_e0
      have w2 := u101
      rw [ed] at w2
      exact ih (i + 1) x1 _ (by omega) (by omega) (by omega) hP101 (xu1_E hE w2 (i := 13) rfl hgA (hgF _) g9) (xcp_s hc (by decide) w1 w2)

set_option maxRecDepth 6000 in
theorem xundo {R : pm_H → Prop} (hR : xHE xX xgA_VR xgF_VR R) {m : Int} (hm : m ≤ 2147483646) (h0m : (0 : Int) ≤ m) {D n : Nat} {ph : pm_H} (hP : xH xX kK m 0 ph) (hV : xV ph) (hI : xINV n ph) (hr : R ph) : ∃ v ph', pm_Rd kK false (D + 1) 241 [.ref 170] ph (v, ph', 0, 0) ∧ (∃ r : Int32, v = some (.int r) ∧ xH xX kK m 0 ph' ∧ xV ph' ∧ xINV n ph' ∧ R ph') := by
  have hE : xHE xX xgA_VR xgF_VR (fun p => xV p ∧ R p) := xHE_and xHEVR hR
  refine xRd_mk (nl := 2) rfl rfl ?_
  show xGT kK D 241 _ (0, [some (.ref 170), none], [], ph, 0, 0)
  refine gt_load (v := .ref 170) (n := 1) (ykc_241 (e := (2, .aload_n kF0, 0)) rfl) rfl rfl ?_
  refine gt_alu (st' := [.int (Int32.ofInt 0), .ref 170]) (ykc_241 (e := (0, .iconst 0, 0)) rfl) rfl rfl ?_
  refine gt_pf (y := Int32.ofInt 0) (ykc_241 (e := (5, .putfield 3, 0)) rfl) rfl hP rfl rfl (by decide) (by decide) rfl (fun ph1 hP1 u1 => ?_)
  refine gt_load (v := .ref 170) (n := 1) (ykc_241 (e := (2, .aload_n kF0, 0)) rfl) rfl rfl ?_
  refine gt_gfi (ykc_241 (e := (5, .getfield 188, 0)) rfl) rfl hP1 rfl rfl (fun undos f_undos f0_undos f1_undos => ?_)
  have g1 : xV ph1 ∧ R ph1 := xu1_E hE u1 rfl rfl rfl ⟨hV, hr⟩
  have i1 : xINV n ph1 := xu1_E (xHEI n) u1 rfl rfl rfl hI
  have hu0 : 0 ≤ undos.toInt := f0_undos
  have hu1 : undos.toInt ≤ 15 := f1_undos
  by_cases hz : undos.toInt = 0
  · refine gt_zne_f (ykc_241 (e := (4, .ifCond .ne 5, 14)) rfl) hz rfl ?_
    refine gt_alu (st' := [.int (Int32.ofInt (-1))]) (ykc_241 (e := (0, .iconst (-1), 0)) rfl) rfl rfl ?_
    refine gt_ret (ykc_241 (e := (7, .ireturn, 0)) rfl) rfl ?_
    exact ⟨_, rfl, hP1, g1.1, i1, g1.2⟩
  · refine gt_zne_t (ykc_241 (e := (4, .ifCond .ne 5, 14)) rfl) hz ?_
    refine gt_load (v := .ref 170) (n := 1) (ykc_241 (e := (2, .aload_n kF0, 0)) rfl) rfl rfl ?_
    refine gt_alu (st' := [.ref 170, .ref 170]) (ykc_241 (e := (0, .dup, 0)) rfl) rfl rfl ?_
    refine gt_gfk (v := .int undos) (ykc_241 (e := (5, .getfield 188, 0)) rfl) rfl hP1 f_undos rfl ?_
    refine gt_alu (st' := [.int (Int32.ofInt 1), .int undos, .ref 170]) (ykc_241 (e := (0, .iconst 1, 0)) rfl) rfl rfl ?_
    obtain ⟨y1, e_y1, h_y1⟩ : ∃ zq : Int32, undos - (Int32.ofInt 1) = zq ∧ zq.toInt = undos.toInt - 1 := ⟨_, rfl, by rw [ti_sub (by rw [xi1]; omega) (by rw [xi1]; omega), xi1]⟩
    refine gt_alu (st' := [.int y1, .ref 170]) (ykc_241 (e := (0, .isub, 0)) rfl) (by rw [← e_y1]; exact rfl) rfl ?_
    refine gt_pf (y := y1) (ykc_241 (e := (5, .putfield 188, 0)) rfl) rfl hP1 rfl rfl (by show 0 ≤ y1.toInt; omega) (by show y1.toInt ≤ 15; omega) rfl (fun ph102 hP102 u102 => ?_)
    have f102_0 : xget ph102 170 0 = some (.int (Int32.ofInt 0)) := (u102.2.1 170 0 (by decide)).trans u1.1
    refine gt_alu (st' := [.int (Int32.ofInt 0)]) (ykc_241 (e := (0, .iconst 0, 0)) rfl) rfl rfl ?_
    refine gt_store (L' := [some (.ref 170), some (.int (Int32.ofInt 0))]) (st' := []) (n := 1) (ykc_241 (e := (3, .istore_n kF1, 0)) rfl) rfl rfl ?_
    have g2 : xV ph102 ∧ R ph102 := xu1_E hE u102 rfl rfl rfl g1
    have i2 : xINV n ph102 := xINV_27 i1 u102 (fun U q k hk => by
      have e := xget_int q f_undos
      subst e
      omega)
    have r2 : xrowG ph102 183 (41 * y1.toInt.toNat) := xrowG_eq (fun c => u102.2.1 183 c (fun q => absurd q.1 (by decide))) (fun k hk => u102.2.1 170 k (fun q => by omega)) (xINV_row i1 f_undos (by omega))
    refine xcl_undo hE rfl (fun _ => rfl) (u := y1.toInt.toNat) (by omega) (by omega) u102.1 (fun ph' x a1 a2 a3 => ?_) 42 0 _ _ (by omega) (by omega) (by decide) hP102 g2 xcp_0
    have qk : xget ph' 170 27 = some (.int y1) := (a3.2.1 170 27 (fun q => absurd q.1 (by decide))).trans u102.1
    refine gt_load (v := .ref 170) (n := 1) (ykc_241 (e := (2, .aload_n kF0, 0)) rfl) rfl rfl ?_
    refine gt_gfk (v := .int y1) (ykc_241 (e := (5, .getfield 188, 0)) rfl) rfl a1 qk rfl ?_
    refine gt_ret (ykc_241 (e := (7, .ireturn, 0)) rfl) rfl ?_
    exact ⟨y1, rfl, a1, a2.1, xINV_now i2 a3 r2, a2.2⟩

set_option maxRecDepth 6000 in
theorem xputsBy {E : pm_H → Prop} {gA : List Nat} {gF : List (Nat × Nat)} (hE : xHE xX gA gF E) (hgA : xmemN gA 13 = false) (hgF : ∀ k, xmemP gF 13 k = false) {m : Int} {w D u : Nat} {y : Int32} (hu : u ≤ 15) (hy : y.toInt = (u : Int)) {ph : pm_H} (q27 : xget ph 170 27 = some (.int y)) (hP : xH xX kK m w ph) (g9 : E ph) : ∃ v ph', pm_Rd kK false (D + 1) 238 [.ref 170] ph (v, ph', 0, 0) ∧ (v = none ∧ xH xX kK m w ph' ∧ E ph' ∧ xcp ph ph' 183 (41 * u) 174 0 41) := by
  refine xRd_mk (nl := 2) rfl rfl ?_
  show xGT kK D 238 _ (0, [some (.ref 170), none], [], ph, 0, 0)
  refine gt_alu (st' := [.int (Int32.ofInt 0)]) (ykc_238 (e := (0, .iconst 0, 0)) rfl) rfl rfl ?_
  refine gt_store (L' := [some (.ref 170), some (.int (Int32.ofInt 0))]) (st' := []) (n := 1) (ykc_238 (e := (3, .istore_n kF1, 0)) rfl) rfl rfl ?_
  refine xcl_puts hE hgA hgF hu hy q27 (fun ph' x a1 a2 a3 => ?_) 42 0 _ _ (by omega) (by omega) (by decide) hP g9 xcp_0
  refine gt_ret (ykc_238 (e := (7, .return_, 0)) rfl) rfl ?_
  exact ⟨rfl, a1, a2, a3⟩

set_option maxRecDepth 6000 in
theorem xzz (k : Nat) : ¬ (k : Int) < (Int32.ofInt 0).toInt := by
  have h : (Int32.ofInt 0).toInt = 0 := by decide
  omega
set_option maxRecDepth 6000 in
theorem xl0 : (Int64.ofNat kG0).toInt = 0 := by decide
set_option maxRecDepth 6000 in
theorem xl2 : (2 : Int64).toInt = 2 := by decide

set_option maxRecDepth 6000 in
theorem xagain {R : pm_H → Prop} (hR : xHE xX xgA_VR xgF_VR R) {m : Int} (hm : m ≤ 2147483646) (h0m : (0 : Int) ≤ m) {D n : Nat} (hD : 3 ≤ D) {ph : pm_H} {y : Int32} (hP : xH xX kK m 0 ph) (hV : xV ph) (hI : xINV n ph) (hr : R ph) : ∃ v ph', pm_Rd kK false D 297 [.ref 170, .int y] ph (v, ph', 0, 0) ∧ (∃ r : Int32, v = some (.int r) ∧ xH xX kK m 0 ph' ∧ xV ph' ∧ xINV n ph' ∧ R ph') := by
  have hE : xHE xX xgA_VR xgF_VR (fun p => xV p ∧ R p) := xHE_and xHEVR hR
  obtain ⟨D9, rfl⟩ : ∃ D9, D = D9 + 1 + 1 := ⟨D - 2, by omega⟩
  refine xRd_mk (nl := 3) rfl rfl ?_
  show xGT kK (D9 + 1) 297 _ (0, [some (.ref 170), some (.int y), none], [], ph, 0, 0)
  refine gt_load (v := .ref 170) (n := 1) (ykc_297 (e := (2, .aload_n kF0, 0)) rfl) rfl rfl ?_
  refine gt_alu (st' := [.int (Int32.ofInt 0), .ref 170]) (ykc_297 (e := (0, .iconst 0, 0)) rfl) rfl rfl ?_
  refine gt_pf (y := Int32.ofInt 0) (ykc_297 (e := (5, .putfield 3, 0)) rfl) rfl hP rfl rfl (by decide) (by decide) rfl (fun ph1 hP1 u1 => ?_)
  refine gt_load (v := .int y) (n := 1) (ykc_297 (e := (2, .iload_n kF1, 0)) rfl) rfl rfl ?_
  refine gt_alu (st' := [.long y.toInt64]) (ykc_297 (e := (0, .i2l, 0)) rfl) rfl rfl ?_
  refine gt_alu (st' := [.long (Int64.ofNat kG0), .long y.toInt64]) (ykc_297 (e := (0, .lconst kG0, 0)) rfl) rfl rfl ?_
  refine gt_push (v := .long (2 : Int64)) (n := 3) (ykc_297 (e := (1, .ldc2_w 330, 0)) rfl) rfl rfl ?_
  refine gt_cs (n := 3) (as := [.long y.toInt64, .long (Int64.ofNat kG0), .long (2 : Int64)]) (r := []) (ykc_297 (e := (6, .invokestatic 126, 0)) rfl) rfl rfl rfl rfl (xin_run (D := D9)) rfl (fun vv ph2 hv => ?_)
  obtain ⟨z, e9, e8, z_s⟩ := hv; subst e9; have e7 := e8.symm; subst e7; rw [tl_i2l, xl0, xl2] at z_s
  change xGT kK (D9 + 1) 297 _ (14, [some (.ref 170), some (.int y), none], [.int z], ph1, 0, 0)
  have g1 : xV ph1 ∧ R ph1 := xu1_E hE u1 rfl rfl rfl ⟨hV, hr⟩
  have i1 : xINV n ph1 := xu1_E (xHEI n) u1 rfl rfl rfl hI
  by_cases hz : z.toInt = 0
  · refine gt_zeq_t (ykc_297 (e := (4, .ifCond .eq 25, 39)) rfl) hz ?_
    refine gt_alu (st' := [.int (Int32.ofInt 0)]) (ykc_297 (e := (0, .iconst 0, 0)) rfl) rfl rfl ?_
    refine gt_ret (ykc_297 (e := (7, .ireturn, 0)) rfl) (xretz (by decide) (by decide)) ?_
    exact ⟨_, rfl, hP1, g1.1, i1, g1.2⟩
  · refine gt_zeq_f (ykc_297 (e := (4, .ifCond .eq 25, 39)) rfl) hz rfl ?_
    refine gt_load (v := .ref 170) (n := 1) (ykc_297 (e := (2, .aload_n kF0, 0)) rfl) rfl rfl ?_
    refine gt_gfr (A := 198) (ykc_297 (e := (5, .getfield 113, 0)) rfl) rfl hP1 rfl rfl rfl ?_
    refine gt_load (v := .int y) (n := 1) (ykc_297 (e := (2, .iload_n kF1, 0)) rfl) rfl rfl ?_
    refine gt_bal (A := 198) (ykc_297 (e := (5, .baload, 0)) rfl) hP1 rfl rfl (by omega) (by omega) rfl (fun ik g_ik b0_ik b1_ik => ?_)
    by_cases hi : ik.toInt = 0
    · refine gt_zeq_t (ykc_297 (e := (4, .ifCond .eq 16, 39)) rfl) hi ?_
      refine gt_alu (st' := [.int (Int32.ofInt 0)]) (ykc_297 (e := (0, .iconst 0, 0)) rfl) rfl rfl ?_
      refine gt_ret (ykc_297 (e := (7, .ireturn, 0)) rfl) (xretz (by decide) (by decide)) ?_
      exact ⟨_, rfl, hP1, g1.1, i1, g1.2⟩
    · refine gt_zeq_f (ykc_297 (e := (4, .ifCond .eq 16, 39)) rfl) hi rfl ?_
      refine gt_load (v := .ref 170) (n := 1) (ykc_297 (e := (2, .aload_n kF0, 0)) rfl) rfl rfl ?_
      refine gt_gfr (A := 199) (ykc_297 (e := (5, .getfield 116, 0)) rfl) rfl hP1 rfl rfl rfl ?_
      refine gt_load (v := .int y) (n := 1) (ykc_297 (e := (2, .iload_n kF1, 0)) rfl) rfl rfl ?_
      refine gt_ial (A := 199) (ykc_297 (e := (5, .iaload, 0)) rfl) hP1 rfl rfl (by omega) (by omega) rfl (fun kc g_kc b_kc => ?_)
      refine gt_load (v := .ref 170) (n := 1) (ykc_297 (e := (2, .aload_n kF0, 0)) rfl) rfl rfl ?_
      refine gt_gfi (ykc_297 (e := (5, .getfield 191, 0)) rfl) rfl hP1 rfl rfl (fun changes f_changes f0_changes f1_changes => ?_)
      by_cases he : kc.toInt = changes.toInt
      case neg =>
        refine gt_ieq_f (ykc_297 (e := (4, .if_icmp .eq 5, 41)) rfl) he rfl ?_
        refine gt_alu (st' := [.int (Int32.ofInt 0)]) (ykc_297 (e := (0, .iconst 0, 0)) rfl) rfl rfl ?_
        refine gt_ret (ykc_297 (e := (7, .ireturn, 0)) rfl) (xretz (by decide) (by decide)) ?_
        exact ⟨_, rfl, hP1, g1.1, i1, g1.2⟩
      case pos =>
        refine gt_ieq_t (ykc_297 (e := (4, .if_icmp .eq 5, 41)) rfl) he ?_
        refine gt_alu (st' := [.int (Int32.ofInt 0)]) (ykc_297 (e := (0, .iconst 0, 0)) rfl) rfl rfl ?_
        refine gt_store (L' := [some (.ref 170), some (.int y), some (.int (Int32.ofInt 0))]) (st' := []) (n := 1) (ykc_297 (e := (3, .istore_n kF2, 0)) rfl) rfl rfl ?_
        have r2 : xrowG ph1 200 (41 * y.toInt.toNat) := xINV_kept i1 (by omega) g_ik hi g_kc f_changes he
        refine xcl_again hE rfl (fun _ => rfl) (u := y.toInt.toNat) (by omega) (by omega) (fun ph' x a1 a2 a3 => ?_) 42 0 _ _ (by omega) (by omega) (by decide) hP1 g1 xcp_0
        refine gt_load (v := .ref 170) (n := 1) (ykc_297 (e := (2, .aload_n kF0, 0)) rfl) rfl rfl ?_
        refine gt_alu (st' := [.int (Int32.ofInt 0), .ref 170]) (ykc_297 (e := (0, .iconst 0, 0)) rfl) rfl rfl ?_
        refine gt_pf (y := Int32.ofInt 0) (ykc_297 (e := (5, .putfield 188, 0)) rfl) rfl a1 rfl rfl (by decide) (by decide) rfl (fun ph51 hP51 u51 => ?_)
        refine gt_alu (st' := [.int (Int32.ofInt 1)]) (ykc_297 (e := (0, .iconst 1, 0)) rfl) rfl rfl ?_
        refine gt_ret (ykc_297 (e := (7, .ireturn, 0)) rfl) (xretz (by decide) (by decide)) ?_
        have g3 := xu1_E hE u51 rfl rfl rfl a2
        exact ⟨_, rfl, hP51, g3.1, xINV_27 (xINV_now i1 a3 r2) u51 (fun U q k hk => absurd hk (xzz k)), g3.2⟩

set_option maxRecDepth 6000 in
theorem xcl_keep {E : pm_H → Prop} {gA : List Nat} {gF : List (Nat × Nat)} (hE : xHE xX gA gF E) (hgA : xmemN gA 30 = false) (hgF : ∀ k, xmemP gF 30 k = false) {m : Int} {w D : Nat} {Q : Option Value → pm_H → Prop} {y : Int32} {u : Nat} (hu : u ≤ 2) (hy : y.toInt = (u : Int)) {ph0 : pm_H} (hQ : ∀ (ph' : pm_H) (x : Int32), xH xX kK m w ph' → E ph' → xcp ph0 ph' 200 (41 * u) 174 0 41 → xGT kK D 296 Q (67, [some (.ref 170), some (.int y), some (.int x)], [], ph', 0, 0)) : ∀ (s i : Nat) (x : Int32) (ph : pm_H), 41 - i < s → i ≤ 41 → x.toInt = (i : Int) → xH xX kK m w ph → E ph → xcp ph0 ph 200 (41 * u) 174 0 i → xGT kK D 296 Q (38, [some (.ref 170), some (.int y), some (.int x)], [], ph, 0, 0) := by
  intro s
  induction s with
  | zero => intro i x ph h; omega
  | succ s ih =>
    intro i x ph hs hi hx hP g9 hc
    by_cases hin : i = 41
    · subst hin
      refine gt_load (v := .int x) (n := 1) (ykc_296 (e := (2, .iload_n kF2, 0)) rfl) rfl rfl ?_
      refine gt_push (v := .int ((Int8.ofInt 41).toInt32)) (n := 2) (ykc_296 (e := (1, .bipush 41, 0)) rfl) rfl rfl ?_
      refine gt_ige_t (ykc_296 (e := (4, .if_icmp .ge 26, 67)) rfl) (by rw [x41]; omega) ?_
      exact hQ ph x hP g9 hc
    · have hi2 : i < 41 := by omega
      refine gt_load (v := .int x) (n := 1) (ykc_296 (e := (2, .iload_n kF2, 0)) rfl) rfl rfl ?_
      refine gt_push (v := .int ((Int8.ofInt 41).toInt32)) (n := 2) (ykc_296 (e := (1, .bipush 41, 0)) rfl) rfl rfl ?_
      refine gt_ige_f (ykc_296 (e := (4, .if_icmp .ge 26, 67)) rfl) (by rw [x41]; omega) rfl ?_
      refine gt_load (v := .ref 170) (n := 1) (ykc_296 (e := (2, .aload_n kF0, 0)) rfl) rfl rfl ?_
      refine gt_gfr (A := 200) (ykc_296 (e := (5, .getfield 119, 0)) rfl) rfl hP rfl rfl rfl ?_
      refine gt_push (v := .int ((Int8.ofInt 41).toInt32)) (n := 2) (ykc_296 (e := (1, .bipush 41, 0)) rfl) rfl rfl ?_
      refine gt_load (v := .int y) (n := 1) (ykc_296 (e := (2, .iload_n kF1, 0)) rfl) rfl rfl ?_
      obtain ⟨y1, e_y1, h_y1⟩ : ∃ zq : Int32, ((Int8.ofInt 41).toInt32) * y = zq ∧ zq.toInt = 41 * y.toInt := ⟨_, rfl, by rw [ti_mul (by rw [x41]; omega) (by rw [x41]; omega), x41]⟩
      refine gt_alu (st' := [.int y1, .ref 200]) (ykc_296 (e := (0, .imul, 0)) rfl) (by rw [← e_y1]; exact rfl) rfl ?_
      refine gt_load (v := .int x) (n := 1) (ykc_296 (e := (2, .iload_n kF2, 0)) rfl) rfl rfl ?_
      obtain ⟨y2, e_y2, h_y2⟩ : ∃ zq : Int32, y1 + x = zq ∧ zq.toInt = 41 * y.toInt + x.toInt := ⟨_, rfl, by rw [ti_add (by rw [h_y1]; omega) (by rw [h_y1]; omega), h_y1]⟩
      refine gt_alu (st' := [.int y2, .ref 200]) (ykc_296 (e := (0, .iadd, 0)) rfl) (by rw [← e_y2]; exact rfl) rfl ?_
      refine gt_load (v := .ref 170) (n := 1) (ykc_296 (e := (2, .aload_n kF0, 0)) rfl) rfl rfl ?_
      refine gt_gfr (A := 174) (ykc_296 (e := (5, .getfield 41, 0)) rfl) rfl hP rfl rfl rfl ?_
      refine gt_load (v := .int x) (n := 1) (ykc_296 (e := (2, .iload_n kF2, 0)) rfl) rfl rfl ?_
      refine gt_ial (A := 174) (ykc_296 (e := (5, .iaload, 0)) rfl) hP rfl rfl (by omega) (by omega) rfl (fun e0 g_e0 b_e0 => ?_)
      refine gt_ias (A := 200) (y := e0) (x := y2) (ykc_296 (e := (5, .iastore, 0)) rfl) hP rfl rfl (by omega) (by omega) (xmod_eq b_e0 (by omega)) rfl (fun ph101 hP101 u101 => ?_)
      obtain ⟨x1, e_x1, h_x1⟩ : ∃ zq : Int32, x + Int32.ofInt 1 = zq ∧ zq.toInt = x.toInt + 1 := ⟨_, rfl, by rw [ti_add (by rw [xi1]; omega) (by rw [xi1]; omega), xi1]⟩
      refine gt_store (L' := [some (.ref 170), some (.int y), some (.int x1)]) (st' := []) (n := 3) (ykc_296 (e := (3, .iinc 2 1, 0)) rfl) (by rw [← e_x1]; rfl) rfl ?_
      refine gt_br (pc' := 38) (st' := []) (ykc_296 (e := (4, .goto (-26), 38)) rfl) rfl ?_
      have es : x.toInt.toNat = 0 + i := by omega
      have ed : y2.toInt.toNat = (41 * u) + i := by omega
      have w1 : xget ph 174 (0 + i) = some (.int e0) := by rw [← es]; exact g_e0
      have w2 := u101
      rw [ed] at w2
      exact ih (i + 1) x1 _ (by omega) (by omega) (by omega) hP101 (xu1_E hE w2 (i := 30) rfl hgA (hgF _) g9) (xcp_s hc (by decide) w1 w2)

set_option maxRecDepth 6000 in
theorem xINV_keep {n k : Nat} {ph1 ph2 ph3 ph' : pm_H} {yb C : Int32} (h : xINV n ph1) (u2 : xu0 ph1 ph2 198 ∧ xgb ph2 198 k yb ∧ ∀ j z, j ≠ k → (xgb ph2 198 j z ↔ xgb ph1 198 j z)) (hC : xget ph1 170 7 = some (.int C)) (u3 : xu1 ph2 ph3 199 k (.int C)) (a3 : xcp ph3 ph' 200 (41 * k) 174 0 41) : xINV n ph' := by
  obtain ⟨W, P, T, U, C2, ⟨f1, f2, f3, f4, f5⟩, ⟨b1, b2, b3, b4⟩, g1, g2, g3⟩ := h
  have e5 := xget_int f5 hC
  subst e5
  have hf : ∀ c, xget ph' 170 c = xget ph1 170 c := fun c => ((a3.2.1 170 c (fun q => absurd q.1 (by decide))).trans (u3.2.1 170 c (fun q => absurd q.1 (by decide)))).trans (u2.1.1 170 c)
  have ha : ∀ a, a ≠ 198 → a ≠ 199 → a ≠ 200 → pm_at ph' a = pm_at ph1 a := fun a h1 h2 h3 => ((a3.2.2 a h3).trans (u3.2.2 a h2)).trans (u2.1.2 a h1)
  refine ⟨W, P, T, U, C2, ⟨(hf 4).trans f1, (hf 5).trans f2, (hf 6).trans f3, (hf 27).trans f4, (hf 7).trans f5⟩, ⟨b1, b2, b3, b4⟩, xgr_eq b1 b2 (fun c _ => xget_at (ha 174 (by decide) (by decide) (by decide)) _) g1, fun u hu => xgr_eq b1 b2 (fun c _ => xget_at (ha 183 (by decide) (by decide) (by decide)) _) (g2 u hu), fun i hi z hz hz0 => ?_⟩
  have hz2 : xgb ph2 198 i z := xgb_eq ((a3.2.2 198 (by decide)).trans (u3.2.2 198 (by decide))) hz
  by_cases ei : i = k
  · subst ei
    refine ⟨C2, (a3.2.1 199 i (fun q => absurd q.1 (by decide))).trans u3.1, Int.le_refl _, fun _ => xgr_cp b1 b2 (fun c hc => ?_) g1⟩
    rw [a3.1 c hc]
    exact (u3.2.1 174 _ (fun q => absurd q.1 (by decide))).trans (u2.1.1 174 _)
  · obtain ⟨K, k1, k2, k3⟩ := g3 i hi z ((u2.2.2 i z ei).mp hz2) hz0
    refine ⟨K, ?_, k2, fun e => xgr_eq b1 b2 (fun c hc => ?_) (k3 e)⟩
    · exact ((a3.2.1 199 i (fun q => absurd q.1 (by decide))).trans (u3.2.1 199 i (fun q => ei q.2))).trans ((u2.1.1 199 i).trans k1)
    · exact ((a3.2.1 200 _ (fun q => by obtain ⟨-, q1, q2⟩ := q; omega)).trans (u3.2.1 200 _ (fun q => absurd q.1 (by decide)))).trans (u2.1.1 200 _)

set_option maxRecDepth 6000 in
theorem xkeeps {R : pm_H → Prop} (hR : xHE xX xgA_VR xgF_VR R) {m : Int} (hm : m ≤ 2147483646) (h0m : (0 : Int) ≤ m) {D n : Nat} (hD : 3 ≤ D) {ph : pm_H} {y : Int32} (hP : xH xX kK m 0 ph) (hV : xV ph) (hI : xINV n ph) (hr : R ph) : ∃ v ph', pm_Rd kK false D 296 [.ref 170, .int y] ph (v, ph', 0, 0) ∧ (∃ r : Int32, v = some (.int r) ∧ xH xX kK m 0 ph' ∧ xV ph' ∧ xINV n ph' ∧ R ph' ∧ ((r.toInt = 1 ∧ 0 ≤ y.toInt ∧ y.toInt ≤ 2) ∨ (r.toInt = 0 ∧ (y.toInt < 0 ∨ 2 < y.toInt)))) := by
  have hE : xHE xX xgA_VR xgF_VR (fun p => xV p ∧ R p) := xHE_and xHEVR hR
  obtain ⟨D9, rfl⟩ : ∃ D9, D = D9 + 1 + 1 := ⟨D - 2, by omega⟩
  refine xRd_mk (nl := 3) rfl rfl ?_
  show xGT kK (D9 + 1) 296 _ (0, [some (.ref 170), some (.int y), none], [], ph, 0, 0)
  refine gt_load (v := .ref 170) (n := 1) (ykc_296 (e := (2, .aload_n kF0, 0)) rfl) rfl rfl ?_
  refine gt_alu (st' := [.int (Int32.ofInt 0), .ref 170]) (ykc_296 (e := (0, .iconst 0, 0)) rfl) rfl rfl ?_
  refine gt_pf (y := Int32.ofInt 0) (ykc_296 (e := (5, .putfield 3, 0)) rfl) rfl hP rfl rfl (by decide) (by decide) rfl (fun ph1 hP1 u1 => ?_)
  refine gt_load (v := .int y) (n := 1) (ykc_296 (e := (2, .iload_n kF1, 0)) rfl) rfl rfl ?_
  refine gt_alu (st' := [.long y.toInt64]) (ykc_296 (e := (0, .i2l, 0)) rfl) rfl rfl ?_
  refine gt_alu (st' := [.long (Int64.ofNat kG0), .long y.toInt64]) (ykc_296 (e := (0, .lconst kG0, 0)) rfl) rfl rfl ?_
  refine gt_push (v := .long (2 : Int64)) (n := 3) (ykc_296 (e := (1, .ldc2_w 330, 0)) rfl) rfl rfl ?_
  refine gt_cs (n := 3) (as := [.long y.toInt64, .long (Int64.ofNat kG0), .long (2 : Int64)]) (r := []) (ykc_296 (e := (6, .invokestatic 126, 0)) rfl) rfl rfl rfl rfl (xin_run (D := D9)) rfl (fun vv ph2 hv => ?_)
  obtain ⟨z, e9, e8, z_s⟩ := hv; subst e9; have e7 := e8.symm; subst e7; rw [tl_i2l, xl0, xl2] at z_s
  change xGT kK (D9 + 1) 296 _ (14, [some (.ref 170), some (.int y), none], [.int z], ph1, 0, 0)
  have g1 : xV ph1 ∧ R ph1 := xu1_E hE u1 rfl rfl rfl ⟨hV, hr⟩
  have i1 : xINV n ph1 := xu1_E (xHEI n) u1 rfl rfl rfl hI
  by_cases hz : z.toInt = 0
  · refine gt_zne_f (ykc_296 (e := (4, .ifCond .ne 5, 19)) rfl) hz rfl ?_
    refine gt_alu (st' := [.int (Int32.ofInt 0)]) (ykc_296 (e := (0, .iconst 0, 0)) rfl) rfl rfl ?_
    refine gt_ret (ykc_296 (e := (7, .ireturn, 0)) rfl) (xretz (by decide) (by decide)) ?_
    exact ⟨_, rfl, hP1, g1.1, i1, g1.2, Or.inr ⟨by decide, by omega⟩⟩
  · refine gt_zne_t (ykc_296 (e := (4, .ifCond .ne 5, 19)) rfl) hz ?_
    refine gt_load (v := .ref 170) (n := 1) (ykc_296 (e := (2, .aload_n kF0, 0)) rfl) rfl rfl ?_
    refine gt_gfr (A := 198) (ykc_296 (e := (5, .getfield 113, 0)) rfl) rfl hP1 rfl rfl rfl ?_
    refine gt_load (v := .int y) (n := 1) (ykc_296 (e := (2, .iload_n kF1, 0)) rfl) rfl rfl ?_
    refine gt_alu (st' := [.int (Int32.ofInt 1), .int y, .ref 198]) (ykc_296 (e := (0, .iconst 1, 0)) rfl) rfl rfl ?_
    refine gt_bas (A := 198) (y := Int32.ofInt 1) (x := y) (ykc_296 (e := (5, .bastore, 0)) rfl) hP1 rfl rfl (by omega) (by omega) rfl (fun ph103 hP103 u103 => ?_)
    refine gt_load (v := .ref 170) (n := 1) (ykc_296 (e := (2, .aload_n kF0, 0)) rfl) rfl rfl ?_
    refine gt_gfr (A := 199) (ykc_296 (e := (5, .getfield 116, 0)) rfl) rfl hP103 rfl rfl rfl ?_
    refine gt_load (v := .int y) (n := 1) (ykc_296 (e := (2, .iload_n kF1, 0)) rfl) rfl rfl ?_
    refine gt_load (v := .ref 170) (n := 1) (ykc_296 (e := (2, .aload_n kF0, 0)) rfl) rfl rfl ?_
    refine gt_gfi (ykc_296 (e := (5, .getfield 191, 0)) rfl) rfl hP103 rfl rfl (fun changes f_changes f0_changes f1_changes => ?_)
    refine gt_ias (A := 199) (y := changes) (x := y) (ykc_296 (e := (5, .iastore, 0)) rfl) hP103 rfl rfl (by omega) (by omega) xany rfl (fun ph104 hP104 u104 => ?_)
    have f104_7 : xget ph104 170 7 = some (.int changes) := (u104.2.1 170 7 (fun q => absurd q.1 (by decide))).trans f_changes
    refine gt_alu (st' := [.int (Int32.ofInt 0)]) (ykc_296 (e := (0, .iconst 0, 0)) rfl) rfl rfl ?_
    refine gt_store (L' := [some (.ref 170), some (.int y), some (.int (Int32.ofInt 0))]) (st' := []) (n := 1) (ykc_296 (e := (3, .istore_n kF2, 0)) rfl) rfl rfl ?_
    have g3 : xV ph104 ∧ R ph104 := xu1_E hE u104 rfl rfl rfl (xu0_E hE u103.1 rfl rfl g1)
    have hC : xget ph1 170 7 = some (.int changes) := (u103.1.1 170 7).symm.trans f_changes
    refine xcl_keep hE rfl (fun _ => rfl) (u := y.toInt.toNat) (by omega) (by omega) (fun ph' x a1 a2 a3 => ?_) 42 0 _ _ (by omega) (by omega) (by decide) hP104 g3 xcp_0
    refine gt_alu (st' := [.int (Int32.ofInt 1)]) (ykc_296 (e := (0, .iconst 1, 0)) rfl) rfl rfl ?_
    refine gt_ret (ykc_296 (e := (7, .ireturn, 0)) rfl) (xretz (by decide) (by decide)) ?_
    exact ⟨_, rfl, a1, a2.1, xINV_keep i1 u103 hC u104 a3, a2.2, Or.inl ⟨by decide, by omega, by omega⟩⟩

