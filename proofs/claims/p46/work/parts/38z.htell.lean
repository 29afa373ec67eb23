
/-! doesSee, seeEachOther, tellEachOther, by hand, printed by wip/x/h_tell.py -/
def xkT : List (Nat × Nat) := [(0, 4), (4, 0), (4, 1), (4, 2), (4, 3), (4, 4), (4, 5), (4, 6), (4, 7), (5, 0), (5, 1), (5, 2), (5, 3), (5, 4), (5, 5), (5, 6), (5, 7)]
/-- where from and to a look is safe -/
def xsb (W x f : Int) : Prop := f ≤ 47 ∨ W = 7 ∨ (f = 48 ∧ W = 5) ∨ (f = 48 ∧ W = 3 ∧ 45 ≤ x ∧ x ≤ 46) ∨ (f = 48 ∧ W = 4 ∧ 44 ≤ x ∧ x ≤ 45) ∨ (f = 48 ∧ W = 6 ∧ 42 ≤ x ∧ x ≤ 43) ∨ (f = 48 ∧ x = 48)
set_option maxRecDepth 6000 in
theorem xnear_all : (List.range 5).all (fun W => (List.range 49).all (fun x => bif (Nat.ble (x / (W + 3)) (48 / (W + 3) + 1) && (Nat.ble (48 / (W + 3)) (x / (W + 3) + 1) && (Nat.ble (x % (W + 3)) (48 % (W + 3) + 1) && Nat.ble (48 % (W + 3)) (x % (W + 3) + 1)))) then decide (W = 4 ∨ W = 2 ∨ (W = 0 ∧ 45 ≤ x ∧ x ≤ 46) ∨ (W = 1 ∧ 44 ≤ x ∧ x ≤ 45) ∨ (W = 3 ∧ 42 ≤ x ∧ x ≤ 43) ∨ x = 48) else true)) = true := by decide +kernel
set_option maxRecDepth 6000 in
theorem xnear {W x f : Int} (h1 : 3 ≤ W) (h2 : W ≤ 7) (x1 : 0 ≤ x) (x2 : x ≤ 48) (f1 : 0 ≤ f) (f2 : f ≤ 48) (d1 : x / W - f / W ≤ 1) (d2 : f / W - x / W ≤ 1) (d3 : x % W - f % W ≤ 1) (d4 : f % W - x % W ≤ 1) : xsb W x f := by
  rcases (show f ≤ 47 ∨ f = 48 by omega) with hf | hf
  · exact Or.inl hf
  · subst hf
    obtain ⟨Wn, hWn⟩ : ∃ n : Nat, W = (n : Int) + 3 := ⟨(W - 3).toNat, by omega⟩
    obtain ⟨xn, hxn⟩ : ∃ n : Nat, x = (n : Int) := ⟨x.toNat, by omega⟩
    have h := List.all_eq_true.mp (List.all_eq_true.mp xnear_all Wn (List.mem_range.mpr (by omega))) xn (List.mem_range.mpr (by omega))
    subst hWn hxn
    have e1 : (xn : Int) / ((Wn : Int) + 3) = ((xn / (Wn + 3) : Nat) : Int) := by rw [Int.natCast_ediv]; rfl
    have e2 : (48 : Int) / ((Wn : Int) + 3) = ((48 / (Wn + 3) : Nat) : Int) := by rw [Int.natCast_ediv]; rfl
    have e3 : (xn : Int) % ((Wn : Int) + 3) = ((xn % (Wn + 3) : Nat) : Int) := by rw [Int.natCast_emod]; rfl
    have e4 : (48 : Int) % ((Wn : Int) + 3) = ((48 % (Wn + 3) : Nat) : Int) := by rw [Int.natCast_emod]; rfl
    rw [e1, e2] at d1 d2
    rw [e3, e4] at d3 d4
    have b1 : Nat.ble (xn / (Wn + 3)) (48 / (Wn + 3) + 1) = true := Nat.ble_eq_true_of_le (by omega)
    have b2 : Nat.ble (48 / (Wn + 3)) (xn / (Wn + 3) + 1) = true := Nat.ble_eq_true_of_le (by omega)
    have b3 : Nat.ble (xn % (Wn + 3)) (48 % (Wn + 3) + 1) = true := Nat.ble_eq_true_of_le (by omega)
    have b4 : Nat.ble (48 % (Wn + 3)) (xn % (Wn + 3) + 1) = true := Nat.ble_eq_true_of_le (by omega)
    rw [b1, b2, b3, b4] at h
    have h := of_decide_eq_true h
    unfold xsb
    omega
set_option maxRecDepth 6000 in
theorem xsees_by {m : Int} (hm : m ≤ 2147483646) (h0m : (0 : Int) ≤ m) {D : Nat} (hD : 6 ≤ D) {ph : pm_H} (hP : xH xX kK m 0 ph) {x f W a b c : Int32} (hx0 : 0 ≤ x.toInt) (hx1 : x.toInt ≤ 48) (hf0 : 0 ≤ f.toInt) (hf1 : f.toInt ≤ 48) (hW : xget ph 170 4 = some (.int W)) (hok : xsb W.toInt x.toInt f.toInt) : ∃ v ph', pm_Rd kK false D 224 [.ref 170, .int x, .int f, .int a, .int b, .int c] ph (v, ph', 0, 0) ∧ (∃ z : Int32, v = some (.int z) ∧ 0 ≤ z.toInt ∧ z.toInt ≤ 1 ∧ ph' = ph) := by
  have fin : ∀ {v : Option Value} {ph' : pm_H}, xhR xX m v (some (.inl (Int.ofNat 0, Int.ofNat 1))) → ph' = ph → ∃ z : Int32, v = some (.int z) ∧ 0 ≤ z.toInt ∧ z.toInt ≤ 1 ∧ ph' = ph := fun ⟨u, e, z, e2, h1, h2⟩ h3 => ⟨z, by rw [e, e2], h1, h2, h3⟩
  have k4 : xown (696324 / 4096) = some 0 ∧ 696324 / 4096 = 170 ∧ 696324 < 17592186044416 := by decide
  rcases hok with h | h | h | h | h | h | h
  · obtain ⟨v, ph', k1, k2, k3, k4, k5⟩ := xcon_go (w := 0) (xn_224_0 (E := fun p => p = ph)) rfl rfl rfl rfl hD hm h0m (Nat.le_refl _) (vs := [.ref 170, .int x, .int f, .int a, .int b, .int c]) ⟨xaRi rfl (by decide), xaI hx0 hx1, xaI hf0 h, xaT, xaT, xaT, trivial⟩ xF0 hP rfl
    exact ⟨v, ph', k1, fin k4 k3⟩
  · obtain ⟨v, ph', k1, k2, k3, k4, k5⟩ := xcon_go (w := 0) (xn_224_1 (E := fun p => p = ph)) rfl rfl rfl rfl hD hm h0m (Nat.le_refl _) (vs := [.ref 170, .int x, .int f, .int a, .int b, .int c]) ⟨xaRi rfl (by decide), xaI hx0 hx1, xaI hf0 hf1, xaT, xaT, xaT, trivial⟩ (xF1 k4 hW (Int.le_of_eq h.symm) (Int.le_of_eq h)) hP rfl
    exact ⟨v, ph', k1, fin k4 k3⟩
  · obtain ⟨v, ph', k1, k2, k3, k4, k5⟩ := xcon_go (w := 0) (xn_224_2 (E := fun p => p = ph)) rfl rfl rfl rfl hD hm h0m (Nat.le_refl _) (vs := [.ref 170, .int x, .int f, .int a, .int b, .int c]) ⟨xaRi rfl (by decide), xaI hx0 hx1, xaI (Int.le_of_eq h.1.symm) (Int.le_of_eq h.1), xaT, xaT, xaT, trivial⟩ (xF1 k4 hW (Int.le_of_eq h.2.symm) (Int.le_of_eq h.2)) hP rfl
    exact ⟨v, ph', k1, fin k4 k3⟩
  · obtain ⟨v, ph', k1, k2, k3, k4, k5⟩ := xcon_go (w := 0) (xn_224_3 (E := fun p => p = ph)) rfl rfl rfl rfl hD hm h0m (Nat.le_refl _) (vs := [.ref 170, .int x, .int f, .int a, .int b, .int c]) ⟨xaRi rfl (by decide), xaI h.2.2.1 h.2.2.2, xaI (Int.le_of_eq h.1.symm) (Int.le_of_eq h.1), xaT, xaT, xaT, trivial⟩ (xF1 k4 hW (Int.le_of_eq h.2.1.symm) (Int.le_of_eq h.2.1)) hP rfl
    exact ⟨v, ph', k1, fin k4 k3⟩
  · obtain ⟨v, ph', k1, k2, k3, k4, k5⟩ := xcon_go (w := 0) (xn_224_4 (E := fun p => p = ph)) rfl rfl rfl rfl hD hm h0m (Nat.le_refl _) (vs := [.ref 170, .int x, .int f, .int a, .int b, .int c]) ⟨xaRi rfl (by decide), xaI h.2.2.1 h.2.2.2, xaI (Int.le_of_eq h.1.symm) (Int.le_of_eq h.1), xaT, xaT, xaT, trivial⟩ (xF1 k4 hW (Int.le_of_eq h.2.1.symm) (Int.le_of_eq h.2.1)) hP rfl
    exact ⟨v, ph', k1, fin k4 k3⟩
  · obtain ⟨v, ph', k1, k2, k3, k4, k5⟩ := xcon_go (w := 0) (xn_224_5 (E := fun p => p = ph)) rfl rfl rfl rfl hD hm h0m (Nat.le_refl _) (vs := [.ref 170, .int x, .int f, .int a, .int b, .int c]) ⟨xaRi rfl (by decide), xaI h.2.2.1 h.2.2.2, xaI (Int.le_of_eq h.1.symm) (Int.le_of_eq h.1), xaT, xaT, xaT, trivial⟩ (xF1 k4 hW (Int.le_of_eq h.2.1.symm) (Int.le_of_eq h.2.1)) hP rfl
    exact ⟨v, ph', k1, fin k4 k3⟩
  · obtain ⟨v, ph', k1, k2, k3, k4, k5⟩ := xcon_go (w := 0) (xn_224_6 (E := fun p => p = ph)) rfl rfl rfl rfl hD hm h0m (Nat.le_refl _) (vs := [.ref 170, .int x, .int f, .int a, .int b, .int c]) ⟨xaRi rfl (by decide), xaI (Int.le_of_eq h.2.symm) (Int.le_of_eq h.2), xaI (Int.le_of_eq h.1.symm) (Int.le_of_eq h.1), xaT, xaT, xaT, trivial⟩ xF0 hP rfl
    exact ⟨v, ph', k1, fin (by obtain ⟨u, e, z, e2, h1, h2⟩ := k4; exact ⟨u, e, z, e2, by have h1 : (1 : Int) ≤ z.toInt := h1; show (0 : Int) ≤ _; omega, h2⟩) k3⟩
set_option maxRecDepth 6000 in
theorem xc8 : ((Int8.ofInt 8).toInt32).toInt = 8 := by decide
set_option maxRecDepth 6000 in
theorem xc16 : ((Int8.ofInt 16).toInt32).toInt = 16 := by decide
set_option maxRecDepth 6000 in
theorem xabs2 {x z : Int32} (e : (if 0 ≤ x then x else 0 - x) = z) (h1 : -100 ≤ x.toInt) (h2 : x.toInt ≤ 100) (h3 : z.toInt < 2) : x.toInt ≤ 1 ∧ -1 ≤ x.toInt := by
  have h0 := x0i
  by_cases hx : 0 ≤ x
  · rw [if_pos hx] at e
    subst e
    have := x32le.mp hx
    omega
  · rw [if_neg hx] at e
    subst e
    have hx2 : x.toInt < 0 := by
      rcases (show x.toInt < 0 ∨ 0 ≤ x.toInt by omega) with q | q
      · exact q
      · exact absurd (x32le.mpr (by omega)) hx
    rw [ti_sub (by omega) (by omega)] at h3
    omega

set_option maxRecDepth 6000 in
theorem xdoes_174 {E : pm_H → Prop} (hE : xHE xX xgA_G8 xgF_G8 E) (hV : ∀ p, E p → xV p) {m : Int} (hm : m ≤ 2147483646) (h0m : (0 : Int) ≤ m) {D : Nat} (hD : 11 ≤ D) {ph : pm_H} (hP : xH xX kK m 0 ph) (g9 : E ph) {p f W x : Int32} (hp0 : 0 ≤ p.toInt) (hp1 : p.toInt ≤ 7) (hx0 : 0 ≤ x.toInt) (hx1 : x.toInt ≤ 48) (hf0 : 0 ≤ f.toInt) (hf1 : f.toInt ≤ 48) (hW : xget ph 170 4 = some (.int W)) (hx : xget ph 174 p.toInt.toNat = some (.int x)) (hok : xsb W.toInt x.toInt f.toInt) : ∃ v ph', pm_Rd kK false (D + 1) 225 [.ref 170, .ref 174, .int p, .int f] ph (v, ph', 0, 0) ∧ (∃ z : Int32, v = some (.int z) ∧ 0 ≤ z.toInt ∧ z.toInt ≤ 1 ∧ xH xX kK m 0 ph' ∧ E ph' ∧ xcells xX xkT ph ph') := by
  have hA : ∃ l, pm_at ph 174 = some (.inl (0, .inl l)) := by
    obtain ⟨l, h, -⟩ := xA_at (A := 174) hP rfl rfl
    exact ⟨l, h⟩
  have hcall : ∀ b : Int32, ∃ v ph', pm_Rd kK false D 220 [.ref 170, .ref 174, .int p, .int b] ph (v, ph', 0, 0) ∧ (∃ z : Int32, v = some (.int z) ∧ xH xX kK m 0 ph' ∧ E ph' ∧ xcells xX xkT ph ph') := fun b => by
    obtain ⟨v, ph', k1, k2, k3, k4, k5⟩ := xcon_go (w := 0) (xn_220_0 (E := fun p => E p ∧ xcells xX xkT ph p) (xHE_cells (by decide +kernel) hE) (fun p h => hV p h.1)) rfl rfl rfl rfl hD hm h0m (Nat.le_refl _) (vs := [.ref 170, .ref 174, .int p, .int b]) ⟨xaRi rfl (by decide), xaRi rfl (by decide), xaI hp0 hp1, xaT, trivial⟩ xF0 hP ⟨g9, fun _ _ _ _ _ => rfl⟩
    obtain ⟨u, e, z, e2, -, -⟩ := k4
    exact ⟨v, ph', k1, z, by rw [e, e2], k2, k3.1, k3.2⟩
  refine xRd_mk (nl := 4) rfl rfl ?_
  show xGT kK D 225 _ (0, [some (.ref 170), some (.ref 174), some (.int p), some (.int f)], [], ph, 0, 0)
  refine gt_load (v := .ref 170) (n := 1) (ykc_225 (e := (2, .aload_n kF0, 0)) rfl) rfl rfl ?_
  refine gt_load (v := .ref 174) (n := 1) (ykc_225 (e := (2, .aload_n kF1, 0)) rfl) rfl rfl ?_
  refine gt_load (v := .int p) (n := 1) (ykc_225 (e := (2, .iload_n kF2, 0)) rfl) rfl rfl ?_
  refine gt_ialk (y := x) (ykc_225 (e := (5, .iaload, 0)) rfl) hx hA (by omega) rfl ?_
  refine gt_load (v := .int f) (n := 1) (ykc_225 (e := (2, .iload_n kF3, 0)) rfl) rfl rfl ?_
  refine gt_load (v := .ref 174) (n := 1) (ykc_225 (e := (2, .aload_n kF1, 0)) rfl) rfl rfl ?_
  refine gt_push (v := .int ((Int8.ofInt 8).toInt32)) (n := 2) (ykc_225 (e := (1, .bipush 8, 0)) rfl) rfl rfl ?_
  refine gt_load (v := .int p) (n := 1) (ykc_225 (e := (2, .iload_n kF2, 0)) rfl) rfl rfl ?_
  obtain ⟨p8, e_p8, h_p8⟩ : ∃ zq : Int32, ((Int8.ofInt 8).toInt32) + p = zq ∧ zq.toInt = 8 + p.toInt := ⟨_, rfl, by rw [ti_add (by rw [xc8]; omega) (by rw [xc8]; omega), xc8]⟩
  refine gt_alu (st' := [.int p8, .ref 174, .int f, .int x, .ref 170]) (ykc_225 (e := (0, .iadd, 0)) rfl) (by rw [← e_p8]; exact rfl) rfl ?_
  refine gt_ial (A := 174) (ykc_225 (e := (5, .iaload, 0)) rfl) hP rfl rfl (by omega) (by omega) rfl (fun fa g_fa b_fa => ?_)
  refine gt_load (v := .ref 174) (n := 1) (ykc_225 (e := (2, .aload_n kF1, 0)) rfl) rfl rfl ?_
  refine gt_push (v := .int ((Int8.ofInt 16).toInt32)) (n := 2) (ykc_225 (e := (1, .bipush 16, 0)) rfl) rfl rfl ?_
  refine gt_load (v := .int p) (n := 1) (ykc_225 (e := (2, .iload_n kF2, 0)) rfl) rfl rfl ?_
  obtain ⟨p16, e_p16, h_p16⟩ : ∃ zq : Int32, ((Int8.ofInt 16).toInt32) + p = zq ∧ zq.toInt = 16 + p.toInt := ⟨_, rfl, by rw [ti_add (by rw [xc16]; omega) (by rw [xc16]; omega), xc16]⟩
  refine gt_alu (st' := [.int p16, .ref 174, .int fa, .int f, .int x, .ref 170]) (ykc_225 (e := (0, .iadd, 0)) rfl) (by rw [← e_p16]; exact rfl) rfl ?_
  refine gt_ial (A := 174) (ykc_225 (e := (5, .iaload, 0)) rfl) hP rfl rfl (by omega) (by omega) rfl (fun br g_br b_br => ?_)
  refine gt_load (v := .ref 170) (n := 1) (ykc_225 (e := (2, .aload_n kF0, 0)) rfl) rfl rfl ?_
  refine gt_load (v := .ref 174) (n := 1) (ykc_225 (e := (2, .aload_n kF1, 0)) rfl) rfl rfl ?_
  refine gt_load (v := .int p) (n := 1) (ykc_225 (e := (2, .iload_n kF2, 0)) rfl) rfl rfl ?_
  refine gt_load (v := .ref 174) (n := 1) (ykc_225 (e := (2, .aload_n kF1, 0)) rfl) rfl rfl ?_
  refine gt_push (v := .int ((Int8.ofInt 16).toInt32)) (n := 2) (ykc_225 (e := (1, .bipush 16, 0)) rfl) rfl rfl ?_
  refine gt_load (v := .int p) (n := 1) (ykc_225 (e := (2, .iload_n kF2, 0)) rfl) rfl rfl ?_
  obtain ⟨p17, e_p17, h_p17⟩ : ∃ zq : Int32, ((Int8.ofInt 16).toInt32) + p = zq ∧ zq.toInt = 16 + p.toInt := ⟨_, rfl, by rw [ti_add (by rw [xc16]; omega) (by rw [xc16]; omega), xc16]⟩
  refine gt_alu (st' := [.int p17, .ref 174, .int p, .ref 174, .ref 170, .int br, .int fa, .int f, .int x, .ref 170]) (ykc_225 (e := (0, .iadd, 0)) rfl) (by rw [← e_p17]; exact rfl) rfl ?_
  refine gt_ial (A := 174) (ykc_225 (e := (5, .iaload, 0)) rfl) hP rfl rfl (by omega) (by omega) rfl (fun br2 g_br2 b_br2 => ?_)
  refine gt_cv (n := 3) (as := [.ref 170, .ref 174, .int p, .int br2]) (r := [.int br, .int fa, .int f, .int x, .ref 170]) (ykc_225 (e := (6, .invokevirtual 292, 0)) rfl) rfl hP rfl rfl rfl (hcall br2) rfl (fun vv ph1 hv => ?_)
  obtain ⟨rc, e9, hP1, g91, hc1⟩ := hv; subst e9
  change xGT kK D 225 _ (29, [some (.ref 170), some (.ref 174), some (.int p), some (.int f)], [.int rc, .int br, .int fa, .int f, .int x, .ref 170], ph1, 0, 0)
  refine gt_cv (n := 5) (as := [.ref 170, .int x, .int f, .int fa, .int br, .int rc]) (r := []) (ykc_225 (e := (6, .invokevirtual 296, 0)) rfl) rfl hP1 rfl rfl rfl (xsees_by hm h0m (by omega) hP1 hx0 hx1 hf0 hf1 ((xcells_g hc1 (a := 170) (i := 0) (k := 4) rfl rfl).trans hW) hok) rfl (fun vv ph2 hv => ?_)
  obtain ⟨z, e9, z0, z1, e8⟩ := hv; subst e9; have e7 := e8.symm; subst e7
  change xGT kK D 225 _ (32, [some (.ref 170), some (.ref 174), some (.int p), some (.int f)], [.int z], ph1, 0, 0)
  refine gt_ret (ykc_225 (e := (7, .ireturn, 0)) rfl) (xretz z0 z1) ?_
  exact ⟨z, rfl, z0, z1, hP1, g91, hc1⟩

set_option maxRecDepth 6000 in
theorem xk7_174 (k : Nat) (hk : k < 8) : xmemP xkT 4 k = true := by
  have h := List.all_eq_true.mp (show (List.range 8).all (fun k => xmemP xkT 4 k) = true by decide +kernel) k (List.mem_range.mpr hk)
  exact h

set_option maxRecDepth 6000 in
theorem xeach_174 {E : pm_H → Prop} (hE : xHE xX xgA_G8 xgF_G8 E) (hV : ∀ p, E p → xV p) {m : Int} (hm : m ≤ 2147483646) (h0m : (0 : Int) ≤ m) {D : Nat} (hD : 11 ≤ D) {ph : pm_H} (hP : xH xX kK m 0 ph) (g9 : E ph) {a b W x y : Int32} (ha0 : 0 ≤ a.toInt) (ha1 : a.toInt ≤ 7) (hb0 : 0 ≤ b.toInt) (hb1 : b.toInt ≤ 7) (hx0 : 0 ≤ x.toInt) (hx1 : x.toInt ≤ 48) (hy0 : 0 ≤ y.toInt) (hy1 : y.toInt ≤ 48) (hW : xget ph 170 4 = some (.int W)) (hx : xget ph 174 a.toInt.toNat = some (.int x)) (hy : xget ph 174 b.toInt.toNat = some (.int y)) (hok1 : xsb W.toInt x.toInt y.toInt) (hok2 : xsb W.toInt y.toInt x.toInt) : ∃ v ph', pm_Rd kK false (D + 1 + 1) 231 [.ref 170, .ref 174, .int a, .int b] ph (v, ph', 0, 0) ∧ (∃ z : Int32, v = some (.int z) ∧ 0 ≤ z.toInt ∧ z.toInt ≤ 1 ∧ xH xX kK m 0 ph' ∧ E ph') := by
  have hA : ∃ l, pm_at ph 174 = some (.inl (0, .inl l)) := by
    obtain ⟨l, h, -⟩ := xA_at (A := 174) hP rfl rfl
    exact ⟨l, h⟩
  refine xRd_mk (nl := 4) rfl rfl ?_
  show xGT kK (D + 1) 231 _ (0, [some (.ref 170), some (.ref 174), some (.int a), some (.int b)], [], ph, 0, 0)
  refine gt_load (v := .ref 170) (n := 1) (ykc_231 (e := (2, .aload_n kF0, 0)) rfl) rfl rfl ?_
  refine gt_load (v := .ref 174) (n := 1) (ykc_231 (e := (2, .aload_n kF1, 0)) rfl) rfl rfl ?_
  refine gt_load (v := .int a) (n := 1) (ykc_231 (e := (2, .iload_n kF2, 0)) rfl) rfl rfl ?_
  refine gt_load (v := .ref 174) (n := 1) (ykc_231 (e := (2, .aload_n kF1, 0)) rfl) rfl rfl ?_
  refine gt_load (v := .int b) (n := 1) (ykc_231 (e := (2, .iload_n kF3, 0)) rfl) rfl rfl ?_
  refine gt_ialk (y := y) (ykc_231 (e := (5, .iaload, 0)) rfl) hy hA (by omega) rfl ?_
  refine gt_cv (n := 3) (as := [.ref 170, .ref 174, .int a, .int y]) (r := []) (ykc_231 (e := (6, .invokevirtual 308, 0)) rfl) rfl hP rfl rfl rfl (xdoes_174 hE hV hm h0m hD hP g9 ha0 ha1 hx0 hx1 hy0 hy1 hW hx hok1) rfl (fun vv ph1 hv => ?_)
  obtain ⟨z1, e9, z10, z11, hP1, g91, hc1⟩ := hv; subst e9
  change xGT kK (D + 1) 231 _ (9, [some (.ref 170), some (.ref 174), some (.int a), some (.int b)], [.int z1], ph1, 0, 0)
  have hA2 : ∃ l, pm_at ph1 174 = some (.inl (0, .inl l)) := by
    obtain ⟨l, h, -⟩ := xA_at (A := 174) hP1 rfl rfl
    exact ⟨l, h⟩
  have hcl : ∀ k, k < 8 → xget ph1 174 k = xget ph 174 k := fun k hk => xcells_g hc1 (a := 174) (i := 4) rfl (xk7_174 k hk)
  have hx2 := (hcl a.toInt.toNat (by omega)).trans hx
  have hy2 := (hcl b.toInt.toNat (by omega)).trans hy
  have hW2 := (xcells_g hc1 (a := 170) (i := 0) (k := 4) rfl rfl).trans hW
  by_cases hz1 : z1.toInt = 0
  · refine gt_zeq_t (ykc_231 (e := (4, .ifCond .eq 19, 28)) rfl) hz1 ?_
    refine gt_alu (st' := [.int (Int32.ofInt 0)]) (ykc_231 (e := (0, .iconst 0, 0)) rfl) rfl rfl ?_
    refine gt_ret (ykc_231 (e := (7, .ireturn, 0)) rfl) rfl ?_
    exact ⟨_, rfl, by decide, by decide, hP1, g91⟩
  · refine gt_zeq_f (ykc_231 (e := (4, .ifCond .eq 19, 28)) rfl) hz1 rfl ?_
    refine gt_load (v := .ref 170) (n := 1) (ykc_231 (e := (2, .aload_n kF0, 0)) rfl) rfl rfl ?_
    refine gt_load (v := .ref 174) (n := 1) (ykc_231 (e := (2, .aload_n kF1, 0)) rfl) rfl rfl ?_
    refine gt_load (v := .int b) (n := 1) (ykc_231 (e := (2, .iload_n kF3, 0)) rfl) rfl rfl ?_
    refine gt_load (v := .ref 174) (n := 1) (ykc_231 (e := (2, .aload_n kF1, 0)) rfl) rfl rfl ?_
    refine gt_load (v := .int a) (n := 1) (ykc_231 (e := (2, .iload_n kF2, 0)) rfl) rfl rfl ?_
    refine gt_ialk (y := x) (ykc_231 (e := (5, .iaload, 0)) rfl) hx2 hA2 (by omega) rfl ?_
    refine gt_cv (n := 3) (as := [.ref 170, .ref 174, .int b, .int x]) (r := []) (ykc_231 (e := (6, .invokevirtual 308, 0)) rfl) rfl hP1 rfl rfl rfl (xdoes_174 hE hV hm h0m hD hP1 g91 hb0 hb1 hy0 hy1 hx0 hx1 hW2 hy2 hok2) rfl (fun vv ph102 hv => ?_)
    obtain ⟨z2, e9, z20, z21, hP2, g92, hc2⟩ := hv; subst e9
    change xGT kK (D + 1) 231 _ (21, [some (.ref 170), some (.ref 174), some (.int a), some (.int b)], [.int z2], ph102, 0, 0)
    by_cases hz2 : z2.toInt = 0
    · refine gt_zeq_t (ykc_231 (e := (4, .ifCond .eq 7, 28)) rfl) hz2 ?_
      refine gt_alu (st' := [.int (Int32.ofInt 0)]) (ykc_231 (e := (0, .iconst 0, 0)) rfl) rfl rfl ?_
      refine gt_ret (ykc_231 (e := (7, .ireturn, 0)) rfl) rfl ?_
      exact ⟨_, rfl, by decide, by decide, hP2, g92⟩
    · refine gt_zeq_f (ykc_231 (e := (4, .ifCond .eq 7, 28)) rfl) hz2 rfl ?_
      refine gt_alu (st' := [.int (Int32.ofInt 1)]) (ykc_231 (e := (0, .iconst 1, 0)) rfl) rfl rfl ?_
      refine gt_br (pc' := 29) (st' := [.int (Int32.ofInt 1)]) (ykc_231 (e := (4, .goto 4, 29)) rfl) rfl ?_
      refine gt_ret (ykc_231 (e := (7, .ireturn, 0)) rfl) rfl ?_
      exact ⟨_, rfl, by decide, by decide, hP2, g92⟩

set_option maxRecDepth 6000 in
theorem xtell_174 {E : pm_H → Prop} (hE : xHE xX xgA_G8 xgF_G8 E) (hV : ∀ p, E p → xV p) : xcon xX kK E 20 232 [.inr (.inr (.inl 0)), .inr (.inr (.inl 4)), .inl ((Int.ofNat 0), (Int.ofNat 7)), .inl ((Int.ofNat 0), (Int.ofNat 7))] [] 0 (some (.inl ((Int.ofNat 0), (Int.ofNat 1)))) [] := by
  intro D' hD' m hm h0m vs ph hv hf hP g9
  obtain ⟨D, rfl⟩ : ∃ D, D' = D + 1 + 1 + 1 := ⟨D' - 3, by omega⟩
  have hD : 11 ≤ D := by omega
  match vs, hv with
  | [v1, v2, v3, v4], ⟨q1, q2, ⟨a, e3, ha0, ha1⟩, ⟨b, e4, hb0, hb1⟩, _⟩ =>
  have e1 := xaO hP (A := 170) rfl q1
  have e2 := xaO hP (A := 174) rfl q2
  subst e1 e2 e3 e4
  have ha0 : 0 ≤ a.toInt := ha0
  have ha1 : a.toInt ≤ 7 := ha1
  have hb0 : 0 ≤ b.toInt := hb0
  have hb1 : b.toInt ≤ 7 := hb1
  suffices hs : ∃ v ph', pm_Rd kK false (D + 1 + 1 + 1) 232 [.ref 170, .ref 174, .int a, .int b] ph (v, ph', 0, 0) ∧ (∃ z : Int32, v = some (.int z) ∧ 0 ≤ z.toInt ∧ z.toInt ≤ 1 ∧ xH xX kK m 0 ph' ∧ E ph') by
    obtain ⟨v, ph', k1, z, e, z0, z1, hP1, g91⟩ := hs
    exact ⟨v, ph', k1, hP1, g91, ⟨_, e, z, rfl, z0, z1⟩, xF0⟩
  have h0m : (0 : Int) ≤ m := h0m
  obtain ⟨W, hW, W0, W1⟩ := xM_fi (k := 4) hP rfl
  have W0 : 3 ≤ W.toInt := W0
  have W1 : W.toInt ≤ 7 := W1
  obtain ⟨l, hl, hlen, hel⟩ := xA_at (A := 174) hP rfl rfl
  have hA : ∃ l, pm_at ph 174 = some (.inl (0, .inl l)) := ⟨l, hl⟩
  obtain ⟨x, hx, bx⟩ := xA_el (A := 174) (k := a.toInt.toNat) hP rfl rfl (by omega)
  obtain ⟨y, hy, bY⟩ := xA_el (A := 174) (k := b.toInt.toNat) hP rfl rfl (by omega)
  have pos8 : ∀ (k : Nat) (z : Int32), k < 8 → xeG m 0 z.toInt (xat [(8, some ((Int.ofNat 0), (Int.ofNat 48))), (32, some ((Int.negSucc 2147483647), (Int.ofNat 2147483647))), (40, some ((Int.ofNat 0), (Int.ofNat 48))), (41, none)] (k % 41)) → 0 ≤ z.toInt ∧ z.toInt ≤ 48 := fun k z hk h => by
    have e1 : k % 41 = k := Nat.mod_eq_of_lt (by omega)
    have e2 : Nat.blt k 8 = true := Nat.ble_eq_true_of_le (by omega)
    rw [e1] at h
    unfold xat at h
    rw [e2] at h
    exact h
  obtain ⟨hx0, hx1⟩ := pos8 _ _ (by omega) bx
  obtain ⟨hy0, hy1⟩ := pos8 _ _ (by omega) bY
  have dq : ∀ z : Int32, 0 ≤ z.toInt → z.toInt ≤ 48 → 0 ≤ z.toInt / W.toInt ∧ z.toInt / W.toInt ≤ 48 ∧ 0 ≤ z.toInt % W.toInt ∧ z.toInt % W.toInt < 7 := fun z h1 h2 => by
    have a1 := Int.ediv_nonneg h1 (show 0 ≤ W.toInt by omega)
    have a2 := Int.ediv_le_self W.toInt h1
    have a3 := Int.emod_nonneg z.toInt (show W.toInt ≠ 0 by omega)
    have a4 := Int.emod_lt_of_pos z.toInt (show 0 < W.toInt by omega)
    omega
  have qx := dq x hx0 hx1
  have qy := dq y hy0 hy1
  have i2 : (Int32.ofInt 2).toInt = 2 := by decide
  refine xRd_mk (nl := 5) rfl rfl ?_
  show xGT kK (D + 1 + 1) 232 _ (0, [some (.ref 170), some (.ref 174), some (.int a), some (.int b), none], [], ph, 0, 0)
  refine gt_load (v := .ref 174) (n := 1) (ykc_232 (e := (2, .aload_n kF1, 0)) rfl) rfl rfl ?_
  refine gt_load (v := .int a) (n := 1) (ykc_232 (e := (2, .iload_n kF2, 0)) rfl) rfl rfl ?_
  refine gt_ialk (y := x) (ykc_232 (e := (5, .iaload, 0)) rfl) hx hA (by omega) rfl ?_
  refine gt_load (v := .ref 170) (n := 1) (ykc_232 (e := (2, .aload_n kF0, 0)) rfl) rfl rfl ?_
  refine gt_gfk (v := .int W) (ykc_232 (e := (5, .getfield 27, 0)) rfl) rfl hP hW rfl ?_
  obtain ⟨rx, e_rx, h_rx⟩ : ∃ zq : Int32, x / W = zq ∧ zq.toInt = x.toInt / W.toInt := ⟨_, rfl, ti_div (by omega) (by omega)⟩
  refine gt_alu (st' := [.int rx]) (ykc_232 (e := (0, .idiv, 0)) rfl) (by rw [← e_rx]; exact (xv_idiv x W _ (by omega))) rfl ?_
  refine gt_load (v := .ref 174) (n := 1) (ykc_232 (e := (2, .aload_n kF1, 0)) rfl) rfl rfl ?_
  refine gt_load (v := .int b) (n := 1) (ykc_232 (e := (2, .iload_n kF3, 0)) rfl) rfl rfl ?_
  refine gt_ialk (y := y) (ykc_232 (e := (5, .iaload, 0)) rfl) hy hA (by omega) rfl ?_
  refine gt_load (v := .ref 170) (n := 1) (ykc_232 (e := (2, .aload_n kF0, 0)) rfl) rfl rfl ?_
  refine gt_gfk (v := .int W) (ykc_232 (e := (5, .getfield 27, 0)) rfl) rfl hP hW rfl ?_
  obtain ⟨ry, e_ry, h_ry⟩ : ∃ zq : Int32, y / W = zq ∧ zq.toInt = y.toInt / W.toInt := ⟨_, rfl, ti_div (by omega) (by omega)⟩
  refine gt_alu (st' := [.int ry, .int rx]) (ykc_232 (e := (0, .idiv, 0)) rfl) (by rw [← e_ry]; exact (xv_idiv y W _ (by omega))) rfl ?_
  obtain ⟨dr, e_dr, h_dr⟩ : ∃ zq : Int32, rx - ry = zq ∧ zq.toInt = x.toInt / W.toInt - y.toInt / W.toInt := ⟨_, rfl, by rw [ti_sub (by omega) (by omega), h_rx, h_ry]⟩
  refine gt_alu (st' := [.int dr]) (ykc_232 (e := (0, .isub, 0)) rfl) (by rw [← e_dr]; exact rfl) rfl ?_
  obtain ⟨ar, e_ar⟩ : ∃ zq : Int32, (if 0 ≤ dr then dr else 0 - dr) = zq := ⟨_, rfl⟩
  refine gt_mem (n := 3) (st' := [.int ar]) (ph' := ph) (ykc_232 (e := (5, .invokestatic 276, 0)) rfl) (by rw [← e_ar]; rfl) rfl ?_
  refine gt_alu (st' := [.int (Int32.ofInt 2), .int ar]) (ykc_232 (e := (0, .iconst 2, 0)) rfl) rfl rfl ?_
  by_cases h1 : 2 ≤ ar.toInt
  · refine gt_ige_t (ykc_232 (e := (4, .if_icmp .ge 31, 52)) rfl) (by rw [i2]; omega) ?_
    refine gt_alu (st' := [.int (Int32.ofInt 0)]) (ykc_232 (e := (0, .iconst 0, 0)) rfl) rfl rfl ?_
    refine gt_store (L' := [some (.ref 170), some (.ref 174), some (.int a), some (.int b), some (.int (Int32.ofInt 0))]) (st' := []) (n := 2) (ykc_232 (e := (3, .istore 4, 0)) rfl) rfl rfl ?_
    refine gt_load (v := .int (Int32.ofInt 0)) (n := 2) (ykc_232 (e := (2, .iload 4, 0)) rfl) rfl rfl ?_
    refine gt_zeq_t (ykc_232 (e := (4, .ifCond .eq 17, 74)) rfl) (by decide) ?_
    refine gt_alu (st' := [.int (Int32.ofInt 0)]) (ykc_232 (e := (0, .iconst 0, 0)) rfl) rfl rfl ?_
    refine gt_ret (ykc_232 (e := (7, .ireturn, 0)) rfl) rfl ?_
    exact ⟨_, rfl, by decide, by decide, hP, g9⟩
  · have n1 := xabs2 e_ar (by omega) (by omega) (by omega)
    refine gt_ige_f (ykc_232 (e := (4, .if_icmp .ge 31, 52)) rfl) (by rw [i2]; omega) rfl ?_
    refine gt_load (v := .ref 174) (n := 1) (ykc_232 (e := (2, .aload_n kF1, 0)) rfl) rfl rfl ?_
    refine gt_load (v := .int a) (n := 1) (ykc_232 (e := (2, .iload_n kF2, 0)) rfl) rfl rfl ?_
    refine gt_ialk (y := x) (ykc_232 (e := (5, .iaload, 0)) rfl) hx hA (by omega) rfl ?_
    refine gt_load (v := .ref 170) (n := 1) (ykc_232 (e := (2, .aload_n kF0, 0)) rfl) rfl rfl ?_
    refine gt_gfk (v := .int W) (ykc_232 (e := (5, .getfield 27, 0)) rfl) rfl hP hW rfl ?_
    obtain ⟨cx, e_cx, h_cx⟩ : ∃ zq : Int32, x - x / W * W = zq ∧ zq.toInt = x.toInt % W.toInt := ⟨_, rfl, ti_rem (by omega) (by omega)⟩
    refine gt_alu (st' := [.int cx]) (ykc_232 (e := (0, .irem, 0)) rfl) (by rw [← e_cx]; exact (xv_irem x W _ (by omega))) rfl ?_
    refine gt_load (v := .ref 174) (n := 1) (ykc_232 (e := (2, .aload_n kF1, 0)) rfl) rfl rfl ?_
    refine gt_load (v := .int b) (n := 1) (ykc_232 (e := (2, .iload_n kF3, 0)) rfl) rfl rfl ?_
    refine gt_ialk (y := y) (ykc_232 (e := (5, .iaload, 0)) rfl) hy hA (by omega) rfl ?_
    refine gt_load (v := .ref 170) (n := 1) (ykc_232 (e := (2, .aload_n kF0, 0)) rfl) rfl rfl ?_
    refine gt_gfk (v := .int W) (ykc_232 (e := (5, .getfield 27, 0)) rfl) rfl hP hW rfl ?_
    obtain ⟨cy, e_cy, h_cy⟩ : ∃ zq : Int32, y - y / W * W = zq ∧ zq.toInt = y.toInt % W.toInt := ⟨_, rfl, ti_rem (by omega) (by omega)⟩
    refine gt_alu (st' := [.int cy, .int cx]) (ykc_232 (e := (0, .irem, 0)) rfl) (by rw [← e_cy]; exact (xv_irem y W _ (by omega))) rfl ?_
    obtain ⟨dc, e_dc, h_dc⟩ : ∃ zq : Int32, cx - cy = zq ∧ zq.toInt = x.toInt % W.toInt - y.toInt % W.toInt := ⟨_, rfl, by rw [ti_sub (by omega) (by omega), h_cx, h_cy]⟩
    refine gt_alu (st' := [.int dc]) (ykc_232 (e := (0, .isub, 0)) rfl) (by rw [← e_dc]; exact rfl) rfl ?_
    obtain ⟨ac, e_ac⟩ : ∃ zq : Int32, (if 0 ≤ dc then dc else 0 - dc) = zq := ⟨_, rfl⟩
    refine gt_mem (n := 3) (st' := [.int ac]) (ph' := ph) (ykc_232 (e := (5, .invokestatic 276, 0)) rfl) (by rw [← e_ac]; rfl) rfl ?_
    refine gt_alu (st' := [.int (Int32.ofInt 2), .int ac]) (ykc_232 (e := (0, .iconst 2, 0)) rfl) rfl rfl ?_
    by_cases h2 : 2 ≤ ac.toInt
    · refine gt_ige_t (ykc_232 (e := (4, .if_icmp .ge 7, 52)) rfl) (by rw [i2]; omega) ?_
      refine gt_alu (st' := [.int (Int32.ofInt 0)]) (ykc_232 (e := (0, .iconst 0, 0)) rfl) rfl rfl ?_
      refine gt_store (L' := [some (.ref 170), some (.ref 174), some (.int a), some (.int b), some (.int (Int32.ofInt 0))]) (st' := []) (n := 2) (ykc_232 (e := (3, .istore 4, 0)) rfl) rfl rfl ?_
      refine gt_load (v := .int (Int32.ofInt 0)) (n := 2) (ykc_232 (e := (2, .iload 4, 0)) rfl) rfl rfl ?_
      refine gt_zeq_t (ykc_232 (e := (4, .ifCond .eq 17, 74)) rfl) (by decide) ?_
      refine gt_alu (st' := [.int (Int32.ofInt 0)]) (ykc_232 (e := (0, .iconst 0, 0)) rfl) rfl rfl ?_
      refine gt_ret (ykc_232 (e := (7, .ireturn, 0)) rfl) rfl ?_
      exact ⟨_, rfl, by decide, by decide, hP, g9⟩
    · have n2 := xabs2 e_ac (by omega) (by omega) (by omega)
      have ok1 : xsb W.toInt x.toInt y.toInt := xnear W0 W1 hx0 hx1 hy0 hy1 (by omega) (by omega) (by omega) (by omega)
      have ok2 : xsb W.toInt y.toInt x.toInt := xnear W0 W1 hy0 hy1 hx0 hx1 (by omega) (by omega) (by omega) (by omega)
      refine gt_ige_f (ykc_232 (e := (4, .if_icmp .ge 7, 52)) rfl) (by rw [i2]; omega) rfl ?_
      refine gt_alu (st' := [.int (Int32.ofInt 1)]) (ykc_232 (e := (0, .iconst 1, 0)) rfl) rfl rfl ?_
      refine gt_br (pc' := 53) (st' := [.int (Int32.ofInt 1)]) (ykc_232 (e := (4, .goto 4, 53)) rfl) rfl ?_
      refine gt_store (L' := [some (.ref 170), some (.ref 174), some (.int a), some (.int b), some (.int (Int32.ofInt 1))]) (st' := []) (n := 2) (ykc_232 (e := (3, .istore 4, 0)) rfl) rfl rfl ?_
      refine gt_load (v := .int (Int32.ofInt 1)) (n := 2) (ykc_232 (e := (2, .iload 4, 0)) rfl) rfl rfl ?_
      refine gt_zeq_f (ykc_232 (e := (4, .ifCond .eq 17, 74)) rfl) (by decide) rfl ?_
      refine gt_load (v := .ref 170) (n := 1) (ykc_232 (e := (2, .aload_n kF0, 0)) rfl) rfl rfl ?_
      refine gt_load (v := .ref 174) (n := 1) (ykc_232 (e := (2, .aload_n kF1, 0)) rfl) rfl rfl ?_
      refine gt_load (v := .int a) (n := 1) (ykc_232 (e := (2, .iload_n kF2, 0)) rfl) rfl rfl ?_
      refine gt_load (v := .int b) (n := 1) (ykc_232 (e := (2, .iload_n kF3, 0)) rfl) rfl rfl ?_
      refine gt_cv (n := 3) (as := [.ref 170, .ref 174, .int a, .int b]) (r := []) (ykc_232 (e := (6, .invokevirtual 312, 0)) rfl) rfl hP rfl rfl rfl (xeach_174 hE hV hm h0m hD hP g9 ha0 ha1 hb0 hb1 hx0 hx1 hy0 hy1 hW hx hy ok1 ok2) rfl (fun vv ph201 hv => ?_)
      obtain ⟨z, e9, z0, z1, hP1, g91⟩ := hv; subst e9
      change xGT kK (D + 1 + 1) 232 _ (67, [some (.ref 170), some (.ref 174), some (.int a), some (.int b), some (.int (Int32.ofInt 1))], [.int z], ph201, 0, 0)
      by_cases hz : z.toInt = 0
      · refine gt_zeq_t (ykc_232 (e := (4, .ifCond .eq 7, 74)) rfl) hz ?_
        refine gt_alu (st' := [.int (Int32.ofInt 0)]) (ykc_232 (e := (0, .iconst 0, 0)) rfl) rfl rfl ?_
        refine gt_ret (ykc_232 (e := (7, .ireturn, 0)) rfl) rfl ?_
        exact ⟨_, rfl, by decide, by decide, hP1, g91⟩
      · refine gt_zeq_f (ykc_232 (e := (4, .ifCond .eq 7, 74)) rfl) hz rfl ?_
        refine gt_alu (st' := [.int (Int32.ofInt 1)]) (ykc_232 (e := (0, .iconst 1, 0)) rfl) rfl rfl ?_
        refine gt_br (pc' := 75) (st' := [.int (Int32.ofInt 1)]) (ykc_232 (e := (4, .goto 4, 75)) rfl) rfl ?_
        refine gt_ret (ykc_232 (e := (7, .ireturn, 0)) rfl) rfl ?_
        exact ⟨_, rfl, by decide, by decide, hP1, g91⟩

set_option maxRecDepth 6000 in
theorem xdoes_175 {E : pm_H → Prop} (hE : xHE xX xgA_G8 xgF_G8 E) (hV : ∀ p, E p → xV p) {m : Int} (hm : m ≤ 2147483646) (h0m : (0 : Int) ≤ m) {D : Nat} (hD : 11 ≤ D) {ph : pm_H} (hP : xH xX kK m 0 ph) (g9 : E ph) {p f W x : Int32} (hp0 : 0 ≤ p.toInt) (hp1 : p.toInt ≤ 7) (hx0 : 0 ≤ x.toInt) (hx1 : x.toInt ≤ 48) (hf0 : 0 ≤ f.toInt) (hf1 : f.toInt ≤ 48) (hW : xget ph 170 4 = some (.int W)) (hx : xget ph 175 p.toInt.toNat = some (.int x)) (hok : xsb W.toInt x.toInt f.toInt) : ∃ v ph', pm_Rd kK false (D + 1) 225 [.ref 170, .ref 175, .int p, .int f] ph (v, ph', 0, 0) ∧ (∃ z : Int32, v = some (.int z) ∧ 0 ≤ z.toInt ∧ z.toInt ≤ 1 ∧ xH xX kK m 0 ph' ∧ E ph' ∧ xcells xX xkT ph ph') := by
  have hA : ∃ l, pm_at ph 175 = some (.inl (0, .inl l)) := by
    obtain ⟨l, h, -⟩ := xA_at (A := 175) hP rfl rfl
    exact ⟨l, h⟩
  have hcall : ∀ b : Int32, ∃ v ph', pm_Rd kK false D 220 [.ref 170, .ref 175, .int p, .int b] ph (v, ph', 0, 0) ∧ (∃ z : Int32, v = some (.int z) ∧ xH xX kK m 0 ph' ∧ E ph' ∧ xcells xX xkT ph ph') := fun b => by
    obtain ⟨v, ph', k1, k2, k3, k4, k5⟩ := xcon_go (w := 0) (xn_220_1 (E := fun p => E p ∧ xcells xX xkT ph p) (xHE_cells (by decide +kernel) hE) (fun p h => hV p h.1)) rfl rfl rfl rfl hD hm h0m (Nat.le_refl _) (vs := [.ref 170, .ref 175, .int p, .int b]) ⟨xaRi rfl (by decide), xaRi rfl (by decide), xaI hp0 hp1, xaT, trivial⟩ xF0 hP ⟨g9, fun _ _ _ _ _ => rfl⟩
    obtain ⟨u, e, z, e2, -, -⟩ := k4
    exact ⟨v, ph', k1, z, by rw [e, e2], k2, k3.1, k3.2⟩
  refine xRd_mk (nl := 4) rfl rfl ?_
  show xGT kK D 225 _ (0, [some (.ref 170), some (.ref 175), some (.int p), some (.int f)], [], ph, 0, 0)
  refine gt_load (v := .ref 170) (n := 1) (ykc_225 (e := (2, .aload_n kF0, 0)) rfl) rfl rfl ?_
  refine gt_load (v := .ref 175) (n := 1) (ykc_225 (e := (2, .aload_n kF1, 0)) rfl) rfl rfl ?_
  refine gt_load (v := .int p) (n := 1) (ykc_225 (e := (2, .iload_n kF2, 0)) rfl) rfl rfl ?_
  refine gt_ialk (y := x) (ykc_225 (e := (5, .iaload, 0)) rfl) hx hA (by omega) rfl ?_
  refine gt_load (v := .int f) (n := 1) (ykc_225 (e := (2, .iload_n kF3, 0)) rfl) rfl rfl ?_
  refine gt_load (v := .ref 175) (n := 1) (ykc_225 (e := (2, .aload_n kF1, 0)) rfl) rfl rfl ?_
  refine gt_push (v := .int ((Int8.ofInt 8).toInt32)) (n := 2) (ykc_225 (e := (1, .bipush 8, 0)) rfl) rfl rfl ?_
  refine gt_load (v := .int p) (n := 1) (ykc_225 (e := (2, .iload_n kF2, 0)) rfl) rfl rfl ?_
  obtain ⟨p8, e_p8, h_p8⟩ : ∃ zq : Int32, ((Int8.ofInt 8).toInt32) + p = zq ∧ zq.toInt = 8 + p.toInt := ⟨_, rfl, by rw [ti_add (by rw [xc8]; omega) (by rw [xc8]; omega), xc8]⟩
  refine gt_alu (st' := [.int p8, .ref 175, .int f, .int x, .ref 170]) (ykc_225 (e := (0, .iadd, 0)) rfl) (by rw [← e_p8]; exact rfl) rfl ?_
  refine gt_ial (A := 175) (ykc_225 (e := (5, .iaload, 0)) rfl) hP rfl rfl (by omega) (by omega) rfl (fun fa g_fa b_fa => ?_)
  refine gt_load (v := .ref 175) (n := 1) (ykc_225 (e := (2, .aload_n kF1, 0)) rfl) rfl rfl ?_
  refine gt_push (v := .int ((Int8.ofInt 16).toInt32)) (n := 2) (ykc_225 (e := (1, .bipush 16, 0)) rfl) rfl rfl ?_
  refine gt_load (v := .int p) (n := 1) (ykc_225 (e := (2, .iload_n kF2, 0)) rfl) rfl rfl ?_
  obtain ⟨p16, e_p16, h_p16⟩ : ∃ zq : Int32, ((Int8.ofInt 16).toInt32) + p = zq ∧ zq.toInt = 16 + p.toInt := ⟨_, rfl, by rw [ti_add (by rw [xc16]; omega) (by rw [xc16]; omega), xc16]⟩
  refine gt_alu (st' := [.int p16, .ref 175, .int fa, .int f, .int x, .ref 170]) (ykc_225 (e := (0, .iadd, 0)) rfl) (by rw [← e_p16]; exact rfl) rfl ?_
  refine gt_ial (A := 175) (ykc_225 (e := (5, .iaload, 0)) rfl) hP rfl rfl (by omega) (by omega) rfl (fun br g_br b_br => ?_)
  refine gt_load (v := .ref 170) (n := 1) (ykc_225 (e := (2, .aload_n kF0, 0)) rfl) rfl rfl ?_
  refine gt_load (v := .ref 175) (n := 1) (ykc_225 (e := (2, .aload_n kF1, 0)) rfl) rfl rfl ?_
  refine gt_load (v := .int p) (n := 1) (ykc_225 (e := (2, .iload_n kF2, 0)) rfl) rfl rfl ?_
  refine gt_load (v := .ref 175) (n := 1) (ykc_225 (e := (2, .aload_n kF1, 0)) rfl) rfl rfl ?_
  refine gt_push (v := .int ((Int8.ofInt 16).toInt32)) (n := 2) (ykc_225 (e := (1, .bipush 16, 0)) rfl) rfl rfl ?_
  refine gt_load (v := .int p) (n := 1) (ykc_225 (e := (2, .iload_n kF2, 0)) rfl) rfl rfl ?_
  obtain ⟨p17, e_p17, h_p17⟩ : ∃ zq : Int32, ((Int8.ofInt 16).toInt32) + p = zq ∧ zq.toInt = 16 + p.toInt := ⟨_, rfl, by rw [ti_add (by rw [xc16]; omega) (by rw [xc16]; omega), xc16]⟩
  refine gt_alu (st' := [.int p17, .ref 175, .int p, .ref 175, .ref 170, .int br, .int fa, .int f, .int x, .ref 170]) (ykc_225 (e := (0, .iadd, 0)) rfl) (by rw [← e_p17]; exact rfl) rfl ?_
  refine gt_ial (A := 175) (ykc_225 (e := (5, .iaload, 0)) rfl) hP rfl rfl (by omega) (by omega) rfl (fun br2 g_br2 b_br2 => ?_)
  refine gt_cv (n := 3) (as := [.ref 170, .ref 175, .int p, .int br2]) (r := [.int br, .int fa, .int f, .int x, .ref 170]) (ykc_225 (e := (6, .invokevirtual 292, 0)) rfl) rfl hP rfl rfl rfl (hcall br2) rfl (fun vv ph1 hv => ?_)
  obtain ⟨rc, e9, hP1, g91, hc1⟩ := hv; subst e9
  change xGT kK D 225 _ (29, [some (.ref 170), some (.ref 175), some (.int p), some (.int f)], [.int rc, .int br, .int fa, .int f, .int x, .ref 170], ph1, 0, 0)
  refine gt_cv (n := 5) (as := [.ref 170, .int x, .int f, .int fa, .int br, .int rc]) (r := []) (ykc_225 (e := (6, .invokevirtual 296, 0)) rfl) rfl hP1 rfl rfl rfl (xsees_by hm h0m (by omega) hP1 hx0 hx1 hf0 hf1 ((xcells_g hc1 (a := 170) (i := 0) (k := 4) rfl rfl).trans hW) hok) rfl (fun vv ph2 hv => ?_)
  obtain ⟨z, e9, z0, z1, e8⟩ := hv; subst e9; have e7 := e8.symm; subst e7
  change xGT kK D 225 _ (32, [some (.ref 170), some (.ref 175), some (.int p), some (.int f)], [.int z], ph1, 0, 0)
  refine gt_ret (ykc_225 (e := (7, .ireturn, 0)) rfl) (xretz z0 z1) ?_
  exact ⟨z, rfl, z0, z1, hP1, g91, hc1⟩

set_option maxRecDepth 6000 in
theorem xk7_175 (k : Nat) (hk : k < 8) : xmemP xkT 5 k = true := by
  have h := List.all_eq_true.mp (show (List.range 8).all (fun k => xmemP xkT 5 k) = true by decide +kernel) k (List.mem_range.mpr hk)
  exact h

set_option maxRecDepth 6000 in
theorem xeach_175 {E : pm_H → Prop} (hE : xHE xX xgA_G8 xgF_G8 E) (hV : ∀ p, E p → xV p) {m : Int} (hm : m ≤ 2147483646) (h0m : (0 : Int) ≤ m) {D : Nat} (hD : 11 ≤ D) {ph : pm_H} (hP : xH xX kK m 0 ph) (g9 : E ph) {a b W x y : Int32} (ha0 : 0 ≤ a.toInt) (ha1 : a.toInt ≤ 7) (hb0 : 0 ≤ b.toInt) (hb1 : b.toInt ≤ 7) (hx0 : 0 ≤ x.toInt) (hx1 : x.toInt ≤ 48) (hy0 : 0 ≤ y.toInt) (hy1 : y.toInt ≤ 48) (hW : xget ph 170 4 = some (.int W)) (hx : xget ph 175 a.toInt.toNat = some (.int x)) (hy : xget ph 175 b.toInt.toNat = some (.int y)) (hok1 : xsb W.toInt x.toInt y.toInt) (hok2 : xsb W.toInt y.toInt x.toInt) : ∃ v ph', pm_Rd kK false (D + 1 + 1) 231 [.ref 170, .ref 175, .int a, .int b] ph (v, ph', 0, 0) ∧ (∃ z : Int32, v = some (.int z) ∧ 0 ≤ z.toInt ∧ z.toInt ≤ 1 ∧ xH xX kK m 0 ph' ∧ E ph') := by
  have hA : ∃ l, pm_at ph 175 = some (.inl (0, .inl l)) := by
    obtain ⟨l, h, -⟩ := xA_at (A := 175) hP rfl rfl
    exact ⟨l, h⟩
  refine xRd_mk (nl := 4) rfl rfl ?_
  show xGT kK (D + 1) 231 _ (0, [some (.ref 170), some (.ref 175), some (.int a), some (.int b)], [], ph, 0, 0)
  refine gt_load (v := .ref 170) (n := 1) (ykc_231 (e := (2, .aload_n kF0, 0)) rfl) rfl rfl ?_
  refine gt_load (v := .ref 175) (n := 1) (ykc_231 (e := (2, .aload_n kF1, 0)) rfl) rfl rfl ?_
  refine gt_load (v := .int a) (n := 1) (ykc_231 (e := (2, .iload_n kF2, 0)) rfl) rfl rfl ?_
  refine gt_load (v := .ref 175) (n := 1) (ykc_231 (e := (2, .aload_n kF1, 0)) rfl) rfl rfl ?_
  refine gt_load (v := .int b) (n := 1) (ykc_231 (e := (2, .iload_n kF3, 0)) rfl) rfl rfl ?_
  refine gt_ialk (y := y) (ykc_231 (e := (5, .iaload, 0)) rfl) hy hA (by omega) rfl ?_
  refine gt_cv (n := 3) (as := [.ref 170, .ref 175, .int a, .int y]) (r := []) (ykc_231 (e := (6, .invokevirtual 308, 0)) rfl) rfl hP rfl rfl rfl (xdoes_175 hE hV hm h0m hD hP g9 ha0 ha1 hx0 hx1 hy0 hy1 hW hx hok1) rfl (fun vv ph1 hv => ?_)
  obtain ⟨z1, e9, z10, z11, hP1, g91, hc1⟩ := hv; subst e9
  change xGT kK (D + 1) 231 _ (9, [some (.ref 170), some (.ref 175), some (.int a), some (.int b)], [.int z1], ph1, 0, 0)
  have hA2 : ∃ l, pm_at ph1 175 = some (.inl (0, .inl l)) := by
    obtain ⟨l, h, -⟩ := xA_at (A := 175) hP1 rfl rfl
    exact ⟨l, h⟩
  have hcl : ∀ k, k < 8 → xget ph1 175 k = xget ph 175 k := fun k hk => xcells_g hc1 (a := 175) (i := 5) rfl (xk7_175 k hk)
  have hx2 := (hcl a.toInt.toNat (by omega)).trans hx
  have hy2 := (hcl b.toInt.toNat (by omega)).trans hy
  have hW2 := (xcells_g hc1 (a := 170) (i := 0) (k := 4) rfl rfl).trans hW
  by_cases hz1 : z1.toInt = 0
  · refine gt_zeq_t (ykc_231 (e := (4, .ifCond .eq 19, 28)) rfl) hz1 ?_
    refine gt_alu (st' := [.int (Int32.ofInt 0)]) (ykc_231 (e := (0, .iconst 0, 0)) rfl) rfl rfl ?_
    refine gt_ret (ykc_231 (e := (7, .ireturn, 0)) rfl) rfl ?_
    exact ⟨_, rfl, by decide, by decide, hP1, g91⟩
  · refine gt_zeq_f (ykc_231 (e := (4, .ifCond .eq 19, 28)) rfl) hz1 rfl ?_
    refine gt_load (v := .ref 170) (n := 1) (ykc_231 (e := (2, .aload_n kF0, 0)) rfl) rfl rfl ?_
    refine gt_load (v := .ref 175) (n := 1) (ykc_231 (e := (2, .aload_n kF1, 0)) rfl) rfl rfl ?_
    refine gt_load (v := .int b) (n := 1) (ykc_231 (e := (2, .iload_n kF3, 0)) rfl) rfl rfl ?_
    refine gt_load (v := .ref 175) (n := 1) (ykc_231 (e := (2, .aload_n kF1, 0)) rfl) rfl rfl ?_
    refine gt_load (v := .int a) (n := 1) (ykc_231 (e := (2, .iload_n kF2, 0)) rfl) rfl rfl ?_
    refine gt_ialk (y := x) (ykc_231 (e := (5, .iaload, 0)) rfl) hx2 hA2 (by omega) rfl ?_
    refine gt_cv (n := 3) (as := [.ref 170, .ref 175, .int b, .int x]) (r := []) (ykc_231 (e := (6, .invokevirtual 308, 0)) rfl) rfl hP1 rfl rfl rfl (xdoes_175 hE hV hm h0m hD hP1 g91 hb0 hb1 hy0 hy1 hx0 hx1 hW2 hy2 hok2) rfl (fun vv ph102 hv => ?_)
    obtain ⟨z2, e9, z20, z21, hP2, g92, hc2⟩ := hv; subst e9
    change xGT kK (D + 1) 231 _ (21, [some (.ref 170), some (.ref 175), some (.int a), some (.int b)], [.int z2], ph102, 0, 0)
    by_cases hz2 : z2.toInt = 0
    · refine gt_zeq_t (ykc_231 (e := (4, .ifCond .eq 7, 28)) rfl) hz2 ?_
      refine gt_alu (st' := [.int (Int32.ofInt 0)]) (ykc_231 (e := (0, .iconst 0, 0)) rfl) rfl rfl ?_
      refine gt_ret (ykc_231 (e := (7, .ireturn, 0)) rfl) rfl ?_
      exact ⟨_, rfl, by decide, by decide, hP2, g92⟩
    · refine gt_zeq_f (ykc_231 (e := (4, .ifCond .eq 7, 28)) rfl) hz2 rfl ?_
      refine gt_alu (st' := [.int (Int32.ofInt 1)]) (ykc_231 (e := (0, .iconst 1, 0)) rfl) rfl rfl ?_
      refine gt_br (pc' := 29) (st' := [.int (Int32.ofInt 1)]) (ykc_231 (e := (4, .goto 4, 29)) rfl) rfl ?_
      refine gt_ret (ykc_231 (e := (7, .ireturn, 0)) rfl) rfl ?_
      exact ⟨_, rfl, by decide, by decide, hP2, g92⟩

set_option maxRecDepth 6000 in
theorem xtell_175 {E : pm_H → Prop} (hE : xHE xX xgA_G8 xgF_G8 E) (hV : ∀ p, E p → xV p) : xcon xX kK E 20 232 [.inr (.inr (.inl 0)), .inr (.inr (.inl 5)), .inl ((Int.ofNat 0), (Int.ofNat 7)), .inl ((Int.ofNat 0), (Int.ofNat 7))] [] 0 (some (.inl ((Int.ofNat 0), (Int.ofNat 1)))) [] := by
  intro D' hD' m hm h0m vs ph hv hf hP g9
  obtain ⟨D, rfl⟩ : ∃ D, D' = D + 1 + 1 + 1 := ⟨D' - 3, by omega⟩
  have hD : 11 ≤ D := by omega
  match vs, hv with
  | [v1, v2, v3, v4], ⟨q1, q2, ⟨a, e3, ha0, ha1⟩, ⟨b, e4, hb0, hb1⟩, _⟩ =>
  have e1 := xaO hP (A := 170) rfl q1
  have e2 := xaO hP (A := 175) rfl q2
  subst e1 e2 e3 e4
  have ha0 : 0 ≤ a.toInt := ha0
  have ha1 : a.toInt ≤ 7 := ha1
  have hb0 : 0 ≤ b.toInt := hb0
  have hb1 : b.toInt ≤ 7 := hb1
  suffices hs : ∃ v ph', pm_Rd kK false (D + 1 + 1 + 1) 232 [.ref 170, .ref 175, .int a, .int b] ph (v, ph', 0, 0) ∧ (∃ z : Int32, v = some (.int z) ∧ 0 ≤ z.toInt ∧ z.toInt ≤ 1 ∧ xH xX kK m 0 ph' ∧ E ph') by
    obtain ⟨v, ph', k1, z, e, z0, z1, hP1, g91⟩ := hs
    exact ⟨v, ph', k1, hP1, g91, ⟨_, e, z, rfl, z0, z1⟩, xF0⟩
  have h0m : (0 : Int) ≤ m := h0m
  obtain ⟨W, hW, W0, W1⟩ := xM_fi (k := 4) hP rfl
  have W0 : 3 ≤ W.toInt := W0
  have W1 : W.toInt ≤ 7 := W1
  obtain ⟨l, hl, hlen, hel⟩ := xA_at (A := 175) hP rfl rfl
  have hA : ∃ l, pm_at ph 175 = some (.inl (0, .inl l)) := ⟨l, hl⟩
  obtain ⟨x, hx, bx⟩ := xA_el (A := 175) (k := a.toInt.toNat) hP rfl rfl (by omega)
  obtain ⟨y, hy, bY⟩ := xA_el (A := 175) (k := b.toInt.toNat) hP rfl rfl (by omega)
  have pos8 : ∀ (k : Nat) (z : Int32), k < 8 → xeG m 0 z.toInt (xat [(8, some ((Int.ofNat 0), (Int.ofNat 48))), (32, some ((Int.negSucc 2147483647), (Int.ofNat 2147483647))), (40, some ((Int.ofNat 0), (Int.ofNat 48))), (41, none)] (k % 41)) → 0 ≤ z.toInt ∧ z.toInt ≤ 48 := fun k z hk h => by
    have e1 : k % 41 = k := Nat.mod_eq_of_lt (by omega)
    have e2 : Nat.blt k 8 = true := Nat.ble_eq_true_of_le (by omega)
    rw [e1] at h
    unfold xat at h
    rw [e2] at h
    exact h
  obtain ⟨hx0, hx1⟩ := pos8 _ _ (by omega) bx
  obtain ⟨hy0, hy1⟩ := pos8 _ _ (by omega) bY
  have dq : ∀ z : Int32, 0 ≤ z.toInt → z.toInt ≤ 48 → 0 ≤ z.toInt / W.toInt ∧ z.toInt / W.toInt ≤ 48 ∧ 0 ≤ z.toInt % W.toInt ∧ z.toInt % W.toInt < 7 := fun z h1 h2 => by
    have a1 := Int.ediv_nonneg h1 (show 0 ≤ W.toInt by omega)
    have a2 := Int.ediv_le_self W.toInt h1
    have a3 := Int.emod_nonneg z.toInt (show W.toInt ≠ 0 by omega)
    have a4 := Int.emod_lt_of_pos z.toInt (show 0 < W.toInt by omega)
    omega
  have qx := dq x hx0 hx1
  have qy := dq y hy0 hy1
  have i2 : (Int32.ofInt 2).toInt = 2 := by decide
  refine xRd_mk (nl := 5) rfl rfl ?_
  show xGT kK (D + 1 + 1) 232 _ (0, [some (.ref 170), some (.ref 175), some (.int a), some (.int b), none], [], ph, 0, 0)
  refine gt_load (v := .ref 175) (n := 1) (ykc_232 (e := (2, .aload_n kF1, 0)) rfl) rfl rfl ?_
  refine gt_load (v := .int a) (n := 1) (ykc_232 (e := (2, .iload_n kF2, 0)) rfl) rfl rfl ?_
  refine gt_ialk (y := x) (ykc_232 (e := (5, .iaload, 0)) rfl) hx hA (by omega) rfl ?_
  refine gt_load (v := .ref 170) (n := 1) (ykc_232 (e := (2, .aload_n kF0, 0)) rfl) rfl rfl ?_
  refine gt_gfk (v := .int W) (ykc_232 (e := (5, .getfield 27, 0)) rfl) rfl hP hW rfl ?_
  obtain ⟨rx, e_rx, h_rx⟩ : ∃ zq : Int32, x / W = zq ∧ zq.toInt = x.toInt / W.toInt := ⟨_, rfl, ti_div (by omega) (by omega)⟩
  refine gt_alu (st' := [.int rx]) (ykc_232 (e := (0, .idiv, 0)) rfl) (by rw [← e_rx]; exact (xv_idiv x W _ (by omega))) rfl ?_
  refine gt_load (v := .ref 175) (n := 1) (ykc_232 (e := (2, .aload_n kF1, 0)) rfl) rfl rfl ?_
  refine gt_load (v := .int b) (n := 1) (ykc_232 (e := (2, .iload_n kF3, 0)) rfl) rfl rfl ?_
  refine gt_ialk (y := y) (ykc_232 (e := (5, .iaload, 0)) rfl) hy hA (by omega) rfl ?_
  refine gt_load (v := .ref 170) (n := 1) (ykc_232 (e := (2, .aload_n kF0, 0)) rfl) rfl rfl ?_
  refine gt_gfk (v := .int W) (ykc_232 (e := (5, .getfield 27, 0)) rfl) rfl hP hW rfl ?_
  obtain ⟨ry, e_ry, h_ry⟩ : ∃ zq : Int32, y / W = zq ∧ zq.toInt = y.toInt / W.toInt := ⟨_, rfl, ti_div (by omega) (by omega)⟩
  refine gt_alu (st' := [.int ry, .int rx]) (ykc_232 (e := (0, .idiv, 0)) rfl) (by rw [← e_ry]; exact (xv_idiv y W _ (by omega))) rfl ?_
  obtain ⟨dr, e_dr, h_dr⟩ : ∃ zq : Int32, rx - ry = zq ∧ zq.toInt = x.toInt / W.toInt - y.toInt / W.toInt := ⟨_, rfl, by rw [ti_sub (by omega) (by omega), h_rx, h_ry]⟩
  refine gt_alu (st' := [.int dr]) (ykc_232 (e := (0, .isub, 0)) rfl) (by rw [← e_dr]; exact rfl) rfl ?_
  obtain ⟨ar, e_ar⟩ : ∃ zq : Int32, (if 0 ≤ dr then dr else 0 - dr) = zq := ⟨_, rfl⟩
  refine gt_mem (n := 3) (st' := [.int ar]) (ph' := ph) (ykc_232 (e := (5, .invokestatic 276, 0)) rfl) (by rw [← e_ar]; rfl) rfl ?_
  refine gt_alu (st' := [.int (Int32.ofInt 2), .int ar]) (ykc_232 (e := (0, .iconst 2, 0)) rfl) rfl rfl ?_
  by_cases h1 : 2 ≤ ar.toInt
  · refine gt_ige_t (ykc_232 (e := (4, .if_icmp .ge 31, 52)) rfl) (by rw [i2]; omega) ?_
    refine gt_alu (st' := [.int (Int32.ofInt 0)]) (ykc_232 (e := (0, .iconst 0, 0)) rfl) rfl rfl ?_
    refine gt_store (L' := [some (.ref 170), some (.ref 175), some (.int a), some (.int b), some (.int (Int32.ofInt 0))]) (st' := []) (n := 2) (ykc_232 (e := (3, .istore 4, 0)) rfl) rfl rfl ?_
    refine gt_load (v := .int (Int32.ofInt 0)) (n := 2) (ykc_232 (e := (2, .iload 4, 0)) rfl) rfl rfl ?_
    refine gt_zeq_t (ykc_232 (e := (4, .ifCond .eq 17, 74)) rfl) (by decide) ?_
    refine gt_alu (st' := [.int (Int32.ofInt 0)]) (ykc_232 (e := (0, .iconst 0, 0)) rfl) rfl rfl ?_
    refine gt_ret (ykc_232 (e := (7, .ireturn, 0)) rfl) rfl ?_
    exact ⟨_, rfl, by decide, by decide, hP, g9⟩
  · have n1 := xabs2 e_ar (by omega) (by omega) (by omega)
    refine gt_ige_f (ykc_232 (e := (4, .if_icmp .ge 31, 52)) rfl) (by rw [i2]; omega) rfl ?_
    refine gt_load (v := .ref 175) (n := 1) (ykc_232 (e := (2, .aload_n kF1, 0)) rfl) rfl rfl ?_
    refine gt_load (v := .int a) (n := 1) (ykc_232 (e := (2, .iload_n kF2, 0)) rfl) rfl rfl ?_
    refine gt_ialk (y := x) (ykc_232 (e := (5, .iaload, 0)) rfl) hx hA (by omega) rfl ?_
    refine gt_load (v := .ref 170) (n := 1) (ykc_232 (e := (2, .aload_n kF0, 0)) rfl) rfl rfl ?_
    refine gt_gfk (v := .int W) (ykc_232 (e := (5, .getfield 27, 0)) rfl) rfl hP hW rfl ?_
    obtain ⟨cx, e_cx, h_cx⟩ : ∃ zq : Int32, x - x / W * W = zq ∧ zq.toInt = x.toInt % W.toInt := ⟨_, rfl, ti_rem (by omega) (by omega)⟩
    refine gt_alu (st' := [.int cx]) (ykc_232 (e := (0, .irem, 0)) rfl) (by rw [← e_cx]; exact (xv_irem x W _ (by omega))) rfl ?_
    refine gt_load (v := .ref 175) (n := 1) (ykc_232 (e := (2, .aload_n kF1, 0)) rfl) rfl rfl ?_
    refine gt_load (v := .int b) (n := 1) (ykc_232 (e := (2, .iload_n kF3, 0)) rfl) rfl rfl ?_
    refine gt_ialk (y := y) (ykc_232 (e := (5, .iaload, 0)) rfl) hy hA (by omega) rfl ?_
    refine gt_load (v := .ref 170) (n := 1) (ykc_232 (e := (2, .aload_n kF0, 0)) rfl) rfl rfl ?_
    refine gt_gfk (v := .int W) (ykc_232 (e := (5, .getfield 27, 0)) rfl) rfl hP hW rfl ?_
    obtain ⟨cy, e_cy, h_cy⟩ : ∃ zq : Int32, y - y / W * W = zq ∧ zq.toInt = y.toInt % W.toInt := ⟨_, rfl, ti_rem (by omega) (by omega)⟩
    refine gt_alu (st' := [.int cy, .int cx]) (ykc_232 (e := (0, .irem, 0)) rfl) (by rw [← e_cy]; exact (xv_irem y W _ (by omega))) rfl ?_
    obtain ⟨dc, e_dc, h_dc⟩ : ∃ zq : Int32, cx - cy = zq ∧ zq.toInt = x.toInt % W.toInt - y.toInt % W.toInt := ⟨_, rfl, by rw [ti_sub (by omega) (by omega), h_cx, h_cy]⟩
    refine gt_alu (st' := [.int dc]) (ykc_232 (e := (0, .isub, 0)) rfl) (by rw [← e_dc]; exact rfl) rfl ?_
    obtain ⟨ac, e_ac⟩ : ∃ zq : Int32, (if 0 ≤ dc then dc else 0 - dc) = zq := ⟨_, rfl⟩
    refine gt_mem (n := 3) (st' := [.int ac]) (ph' := ph) (ykc_232 (e := (5, .invokestatic 276, 0)) rfl) (by rw [← e_ac]; rfl) rfl ?_
    refine gt_alu (st' := [.int (Int32.ofInt 2), .int ac]) (ykc_232 (e := (0, .iconst 2, 0)) rfl) rfl rfl ?_
    by_cases h2 : 2 ≤ ac.toInt
    · refine gt_ige_t (ykc_232 (e := (4, .if_icmp .ge 7, 52)) rfl) (by rw [i2]; omega) ?_
      refine gt_alu (st' := [.int (Int32.ofInt 0)]) (ykc_232 (e := (0, .iconst 0, 0)) rfl) rfl rfl ?_
      refine gt_store (L' := [some (.ref 170), some (.ref 175), some (.int a), some (.int b), some (.int (Int32.ofInt 0))]) (st' := []) (n := 2) (ykc_232 (e := (3, .istore 4, 0)) rfl) rfl rfl ?_
      refine gt_load (v := .int (Int32.ofInt 0)) (n := 2) (ykc_232 (e := (2, .iload 4, 0)) rfl) rfl rfl ?_
      refine gt_zeq_t (ykc_232 (e := (4, .ifCond .eq 17, 74)) rfl) (by decide) ?_
      refine gt_alu (st' := [.int (Int32.ofInt 0)]) (ykc_232 (e := (0, .iconst 0, 0)) rfl) rfl rfl ?_
      refine gt_ret (ykc_232 (e := (7, .ireturn, 0)) rfl) rfl ?_
      exact ⟨_, rfl, by decide, by decide, hP, g9⟩
    · have n2 := xabs2 e_ac (by omega) (by omega) (by omega)
      have ok1 : xsb W.toInt x.toInt y.toInt := xnear W0 W1 hx0 hx1 hy0 hy1 (by omega) (by omega) (by omega) (by omega)
      have ok2 : xsb W.toInt y.toInt x.toInt := xnear W0 W1 hy0 hy1 hx0 hx1 (by omega) (by omega) (by omega) (by omega)
      refine gt_ige_f (ykc_232 (e := (4, .if_icmp .ge 7, 52)) rfl) (by rw [i2]; omega) rfl ?_
      refine gt_alu (st' := [.int (Int32.ofInt 1)]) (ykc_232 (e := (0, .iconst 1, 0)) rfl) rfl rfl ?_
      refine gt_br (pc' := 53) (st' := [.int (Int32.ofInt 1)]) (ykc_232 (e := (4, .goto 4, 53)) rfl) rfl ?_
      refine gt_store (L' := [some (.ref 170), some (.ref 175), some (.int a), some (.int b), some (.int (Int32.ofInt 1))]) (st' := []) (n := 2) (ykc_232 (e := (3, .istore 4, 0)) rfl) rfl rfl ?_
      refine gt_load (v := .int (Int32.ofInt 1)) (n := 2) (ykc_232 (e := (2, .iload 4, 0)) rfl) rfl rfl ?_
      refine gt_zeq_f (ykc_232 (e := (4, .ifCond .eq 17, 74)) rfl) (by decide) rfl ?_
      refine gt_load (v := .ref 170) (n := 1) (ykc_232 (e := (2, .aload_n kF0, 0)) rfl) rfl rfl ?_
      refine gt_load (v := .ref 175) (n := 1) (ykc_232 (e := (2, .aload_n kF1, 0)) rfl) rfl rfl ?_
      refine gt_load (v := .int a) (n := 1) (ykc_232 (e := (2, .iload_n kF2, 0)) rfl) rfl rfl ?_
      refine gt_load (v := .int b) (n := 1) (ykc_232 (e := (2, .iload_n kF3, 0)) rfl) rfl rfl ?_
      refine gt_cv (n := 3) (as := [.ref 170, .ref 175, .int a, .int b]) (r := []) (ykc_232 (e := (6, .invokevirtual 312, 0)) rfl) rfl hP rfl rfl rfl (xeach_175 hE hV hm h0m hD hP g9 ha0 ha1 hb0 hb1 hx0 hx1 hy0 hy1 hW hx hy ok1 ok2) rfl (fun vv ph201 hv => ?_)
      obtain ⟨z, e9, z0, z1, hP1, g91⟩ := hv; subst e9
      change xGT kK (D + 1 + 1) 232 _ (67, [some (.ref 170), some (.ref 175), some (.int a), some (.int b), some (.int (Int32.ofInt 1))], [.int z], ph201, 0, 0)
      by_cases hz : z.toInt = 0
      · refine gt_zeq_t (ykc_232 (e := (4, .ifCond .eq 7, 74)) rfl) hz ?_
        refine gt_alu (st' := [.int (Int32.ofInt 0)]) (ykc_232 (e := (0, .iconst 0, 0)) rfl) rfl rfl ?_
        refine gt_ret (ykc_232 (e := (7, .ireturn, 0)) rfl) rfl ?_
        exact ⟨_, rfl, by decide, by decide, hP1, g91⟩
      · refine gt_zeq_f (ykc_232 (e := (4, .ifCond .eq 7, 74)) rfl) hz rfl ?_
        refine gt_alu (st' := [.int (Int32.ofInt 1)]) (ykc_232 (e := (0, .iconst 1, 0)) rfl) rfl rfl ?_
        refine gt_br (pc' := 75) (st' := [.int (Int32.ofInt 1)]) (ykc_232 (e := (4, .goto 4, 75)) rfl) rfl ?_
        refine gt_ret (ykc_232 (e := (7, .ireturn, 0)) rfl) rfl ?_
        exact ⟨_, rfl, by decide, by decide, hP1, g91⟩

