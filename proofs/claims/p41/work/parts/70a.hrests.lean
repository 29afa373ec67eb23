/-! rests: class and reference answer the same, by hand, printed by wip/x/h_zyrests.py -/
def yrG (v o t : Int32) : Int32 := v * (if t < o then t else o) / Int32.ofInt 4 - o - (if Int32.ofInt 0 < o - Int32.ofInt 4 then o - Int32.ofInt 4 else Int32.ofInt 0)
def yrL (v o t : Int32) (e : Nat) : Bool := decide ((yrG v (Int32.ofNat e) t).toInt ≤ (yrG v o t).toInt)
def yrA (v o t : Int32) : Nat → Bool
  | 0 => true
  | k + 1 => yrA v o t k && yrL v o t k
set_option maxRecDepth 6000 in
theorem yrA_f {v o t : Int32} {k : Nat} (h : yrA v o t k = false) : ∀ r, yrA v o t (k + r) = false
  | 0 => h
  | r + 1 => by
    show (yrA v o t (k + r) && yrL v o t (k + r)) = false
    rw [yrA_f h r]
    rfl
set_option maxRecDepth 6000 in
theorem yrA_s {v o t : Int32} {k : Nat} {b : Bool} (h : yrL v o t k = b) : yrA v o t (k + 1) = (yrA v o t k && b) := by
  show (yrA v o t k && yrL v o t k) = _
  rw [h]
def yrI (b : Bool) : Int32 := bif b then Int32.ofInt 1 else Int32.ofInt 0
set_option maxRecDepth 6000 in
theorem yrI_b (b : Bool) : 0 ≤ (yrI b).toInt ∧ (yrI b).toInt ≤ 1 := by cases b <;> decide
def yrW (v x y : Int32) : Bool := yrA v x y 10 && yrA v y x 10
def yrC (v : Int32) : Nat → Nat
  | 0 => 0
  | i + 1 => yrC v i + (bif yrW v (Int32.ofNat (i / 10)) (Int32.ofNat (i % 10)) then 1 else 0)
set_option maxRecDepth 6000 in
theorem yrC_00 {v : Int32} : (Int32.ofInt 0).toInt = (yrC v (10 * 0) : Int) := by
  show (Int32.ofInt 0).toInt = ((0 : Nat) : Int)
  decide
set_option maxRecDepth 6000 in
theorem yrC_le (v : Int32) : ∀ i, yrC v i ≤ i
  | 0 => Nat.le_refl _
  | i + 1 => by
    have h := yrC_le v i
    show yrC v i + (bif yrW v (Int32.ofNat (i / 10)) (Int32.ofNat (i % 10)) then 1 else 0) ≤ i + 1
    cases yrW v (Int32.ofNat (i / 10)) (Int32.ofNat (i % 10)) with
    | true => exact Nat.succ_le_succ h
    | false => exact Nat.le_succ_of_le h
set_option maxRecDepth 6000 in
theorem yrC_s {v : Int32} {x y : Nat} {b : Bool} (hy : y < 10) (h : yrW v (Int32.ofNat x) (Int32.ofNat y) = b) : yrC v (10 * x + y + 1) = yrC v (10 * x + y) + (bif b then 1 else 0) := by
  show yrC v (10 * x + y) + (bif yrW v (Int32.ofNat ((10 * x + y) / 10)) (Int32.ofNat ((10 * x + y) % 10)) then 1 else 0) = _
  rw [show (10 * x + y) / 10 = x by omega, show (10 * x + y) % 10 = y by omega, h]
def yrR (v : Int32) : Int32 := if 0 ≤ v.toInt ∧ v.toInt ≤ 20 then Int32.ofNat (yrC v 100) else Int32.ofInt (-1)
set_option maxRecDepth 6000 in
theorem ynat {k : Nat} (h : k ≤ 100000) : (Int32.ofNat k).toInt = (k : Int) := Int32.toInt_ofNat_of_lt (by omega)
set_option maxRecDepth 6000 in
theorem yn1 : (Int32.ofInt 1).toInt = 1 := by decide
set_option maxRecDepth 6000 in
theorem yn0 : (Int32.ofInt 0).toInt = 0 := by decide
set_option maxRecDepth 6000 in
theorem ysuc {k : Nat} {x : Int32} (hx : x = Int32.ofNat k) (h : k ≤ 1000) : x + Int32.ofInt 1 = Int32.ofNat (k + 1) := Int32.toInt_inj.mp (by
  subst hx
  rw [ti_add (by rw [ynat (by omega), yn1]; omega) (by rw [ynat (by omega), yn1]; omega), ynat (by omega), ynat (by omega), yn1]
  omega)
set_option maxRecDepth 6000 in
theorem yb9 : ((Int8.ofInt 9).toInt32).toInt = 9 := by decide
set_option maxRecDepth 6000 in
theorem yb20 : ((Int8.ofInt 20).toInt32).toInt = 20 := by decide
section YR
variable {D : Nat} {v o t : Int32} {ph : pm_H} {Q : Option Value → pm_H → Prop}
set_option maxRecDepth 6000 in
theorem ygain : ∃ r ph', pm_Rd kK false (D + 1) 23 [.int v, .int o, .int t] ph (r, ph', 0, 0) ∧ (∃ z : Int32, r = some (.int z) ∧ ph' = ph ∧ z = yrG v o t) := by
  refine xRd_mk (nl := 3) rfl rfl ?_
  show xGT kK D 23 _ (0, [some (.int v), some (.int o), some (.int t)], [], ph, 0, 0)
  refine gt_load (v := .int v) (n := 1) (ykc_23 (e := (2, .iload_n kF0, 0)) rfl) rfl rfl ?_
  refine gt_load (v := .int o) (n := 1) (ykc_23 (e := (2, .iload_n kF1, 0)) rfl) rfl rfl ?_
  refine gt_load (v := .int t) (n := 1) (ykc_23 (e := (2, .iload_n kF2, 0)) rfl) rfl rfl ?_
  obtain ⟨mn, e_mn⟩ : ∃ zq : Int32, (if t < o then t else o) = zq := ⟨_, rfl⟩
  refine gt_mem (n := 3) (st' := [.int mn, .int v]) (ph' := ph) (ykc_23 (e := (5, .invokestatic 59, 0)) rfl) (by rw [← e_mn]; rfl) rfl ?_
  refine gt_alu (st' := [.int (v * mn)]) (ykc_23 (e := (0, .imul, 0)) rfl) rfl rfl ?_
  refine gt_alu (st' := [.int (Int32.ofInt 4), .int (v * mn)]) (ykc_23 (e := (0, .iconst 4, 0)) rfl) rfl rfl ?_
  refine gt_alu (st' := [.int ((v * mn) / (Int32.ofInt 4))]) (ykc_23 (e := (0, .idiv, 0)) rfl) (xv_idiv (v * mn) (Int32.ofInt 4) _ (by decide)) rfl ?_
  refine gt_load (v := .int o) (n := 1) (ykc_23 (e := (2, .iload_n kF1, 0)) rfl) rfl rfl ?_
  refine gt_alu (st' := [.int (((v * mn) / (Int32.ofInt 4)) - o)]) (ykc_23 (e := (0, .isub, 0)) rfl) rfl rfl ?_
  refine gt_alu (st' := [.int (Int32.ofInt 0), .int (((v * mn) / (Int32.ofInt 4)) - o)]) (ykc_23 (e := (0, .iconst 0, 0)) rfl) rfl rfl ?_
  refine gt_load (v := .int o) (n := 1) (ykc_23 (e := (2, .iload_n kF1, 0)) rfl) rfl rfl ?_
  refine gt_alu (st' := [.int (Int32.ofInt 4), .int o, .int (Int32.ofInt 0), .int (((v * mn) / (Int32.ofInt 4)) - o)]) (ykc_23 (e := (0, .iconst 4, 0)) rfl) rfl rfl ?_
  refine gt_alu (st' := [.int (o - (Int32.ofInt 4)), .int (Int32.ofInt 0), .int (((v * mn) / (Int32.ofInt 4)) - o)]) (ykc_23 (e := (0, .isub, 0)) rfl) rfl rfl ?_
  obtain ⟨mx, e_mx⟩ : ∃ zq : Int32, (if (Int32.ofInt 0) < (o - (Int32.ofInt 4)) then (o - (Int32.ofInt 4)) else (Int32.ofInt 0)) = zq := ⟨_, rfl⟩
  refine gt_mem (n := 3) (st' := [.int mx, .int (((v * mn) / (Int32.ofInt 4)) - o)]) (ph' := ph) (ykc_23 (e := (5, .invokestatic 35, 0)) rfl) (by rw [← e_mx]; rfl) rfl ?_
  refine gt_alu (st' := [.int ((((v * mn) / (Int32.ofInt 4)) - o) - mx)]) (ykc_23 (e := (0, .isub, 0)) rfl) rfl rfl ?_
  refine gt_ret (ykc_23 (e := (7, .ireturn, 0)) rfl) rfl ?_
  subst e_mn e_mx
  exact ⟨_, rfl, rfl, rfl⟩
set_option maxRecDepth 6000 in
theorem ygets : ∃ r ph', pm_Rd kK false (D + 1) 291 [.int o, .int t, .int v] ph (r, ph', 0, 0) ∧ (∃ z : Int32, r = some (.int z) ∧ ph' = ph ∧ z = yrG v o t) := by
  refine xRd_mk (nl := 3) rfl rfl ?_
  show xGT kK D 291 _ (0, [some (.int o), some (.int t), some (.int v)], [], ph, 0, 0)
  refine gt_load (v := .int v) (n := 1) (ykc_291 (e := (2, .iload_n kF2, 0)) rfl) rfl rfl ?_
  refine gt_load (v := .int o) (n := 1) (ykc_291 (e := (2, .iload_n kF0, 0)) rfl) rfl rfl ?_
  refine gt_load (v := .int t) (n := 1) (ykc_291 (e := (2, .iload_n kF1, 0)) rfl) rfl rfl ?_
  obtain ⟨mn, e_mn⟩ : ∃ zq : Int32, (if t < o then t else o) = zq := ⟨_, rfl⟩
  refine gt_mem (n := 3) (st' := [.int mn, .int v]) (ph' := ph) (ykc_291 (e := (5, .invokestatic 145, 0)) rfl) (by rw [← e_mn]; rfl) rfl ?_
  refine gt_alu (st' := [.int (v * mn)]) (ykc_291 (e := (0, .imul, 0)) rfl) rfl rfl ?_
  refine gt_alu (st' := [.int (Int32.ofInt 4), .int (v * mn)]) (ykc_291 (e := (0, .iconst 4, 0)) rfl) rfl rfl ?_
  refine gt_alu (st' := [.int ((v * mn) / (Int32.ofInt 4))]) (ykc_291 (e := (0, .idiv, 0)) rfl) (xv_idiv (v * mn) (Int32.ofInt 4) _ (by decide)) rfl ?_
  refine gt_load (v := .int o) (n := 1) (ykc_291 (e := (2, .iload_n kF0, 0)) rfl) rfl rfl ?_
  refine gt_alu (st' := [.int (((v * mn) / (Int32.ofInt 4)) - o)]) (ykc_291 (e := (0, .isub, 0)) rfl) rfl rfl ?_
  refine gt_alu (st' := [.int (Int32.ofInt 0), .int (((v * mn) / (Int32.ofInt 4)) - o)]) (ykc_291 (e := (0, .iconst 0, 0)) rfl) rfl rfl ?_
  refine gt_load (v := .int o) (n := 1) (ykc_291 (e := (2, .iload_n kF0, 0)) rfl) rfl rfl ?_
  refine gt_alu (st' := [.int (Int32.ofInt 4), .int o, .int (Int32.ofInt 0), .int (((v * mn) / (Int32.ofInt 4)) - o)]) (ykc_291 (e := (0, .iconst 4, 0)) rfl) rfl rfl ?_
  refine gt_alu (st' := [.int (o - (Int32.ofInt 4)), .int (Int32.ofInt 0), .int (((v * mn) / (Int32.ofInt 4)) - o)]) (ykc_291 (e := (0, .isub, 0)) rfl) rfl rfl ?_
  obtain ⟨mx, e_mx⟩ : ∃ zq : Int32, (if (Int32.ofInt 0) < (o - (Int32.ofInt 4)) then (o - (Int32.ofInt 4)) else (Int32.ofInt 0)) = zq := ⟨_, rfl⟩
  refine gt_mem (n := 3) (st' := [.int mx, .int (((v * mn) / (Int32.ofInt 4)) - o)]) (ph' := ph) (ykc_291 (e := (5, .invokestatic 273, 0)) rfl) (by rw [← e_mx]; rfl) rfl ?_
  refine gt_alu (st' := [.int ((((v * mn) / (Int32.ofInt 4)) - o) - mx)]) (ykc_291 (e := (0, .isub, 0)) rfl) rfl rfl ?_
  refine gt_ret (ykc_291 (e := (7, .ireturn, 0)) rfl) rfl ?_
  subst e_mn e_mx
  exact ⟨_, rfl, rfl, rfl⟩
set_option maxRecDepth 6000 in
theorem ybestL (kk : Q (some (.int (yrI (yrA v o t 10)))) ph) : ∀ (r k : Nat) (x : Int32), k + r = 10 → x = Int32.ofNat k → yrA v o t k = true → xGT kK (D + 1) 22 Q (2, [some (.int v), some (.int o), some (.int t), some (.int x)], [], ph, 0, 0) := by
  intro r
  induction r with
  | zero =>
    intro k x hk hx hA
    obtain rfl : k = 10 := by omega
    have hx2 : x.toInt = 10 := by rw [hx]; decide
    rw [hA] at kk
    refine gt_load (v := .int x) (n := 1) (ykc_22 (e := (2, .iload_n kF3, 0)) rfl) rfl rfl ?_
    refine gt_push (v := .int ((Int8.ofInt 9).toInt32)) (n := 2) (ykc_22 (e := (1, .bipush 9, 0)) rfl) rfl rfl ?_
    refine gt_igt_t (ykc_22 (e := (4, .if_icmp .gt 26, 31)) rfl) (by rw [yb9]; omega) ?_
    refine gt_alu (st' := [.int (Int32.ofInt 1)]) (ykc_22 (e := (0, .iconst 1, 0)) rfl) rfl rfl ?_
    refine gt_ret (ykc_22 (e := (7, .ireturn, 0)) rfl) (xretz (by decide) (by decide)) ?_
    exact kk
  | succ r ih =>
    intro k x hk hx hA
    have hx2 : x.toInt = (k : Int) := by rw [hx]; exact ynat (by omega)
    refine gt_load (v := .int x) (n := 1) (ykc_22 (e := (2, .iload_n kF3, 0)) rfl) rfl rfl ?_
    refine gt_push (v := .int ((Int8.ofInt 9).toInt32)) (n := 2) (ykc_22 (e := (1, .bipush 9, 0)) rfl) rfl rfl ?_
    refine gt_igt_f (ykc_22 (e := (4, .if_icmp .gt 26, 31)) rfl) (by rw [yb9]; omega) rfl ?_
    refine gt_load (v := .int v) (n := 1) (ykc_22 (e := (2, .iload_n kF0, 0)) rfl) rfl rfl ?_
    refine gt_load (v := .int x) (n := 1) (ykc_22 (e := (2, .iload_n kF3, 0)) rfl) rfl rfl ?_
    refine gt_load (v := .int t) (n := 1) (ykc_22 (e := (2, .iload_n kF2, 0)) rfl) rfl rfl ?_
    refine gt_cs (n := 3) (as := [.int v, .int x, .int t]) (r := []) (ykc_22 (e := (6, .invokestatic 55, 0)) rfl) rfl rfl rfl rfl (ygain (D := D)) rfl (fun vv ph1 hv => ?_)
    obtain ⟨z, e9, e8, z_s⟩ := hv; subst z_s e9; have e7 := e8.symm; subst e7
    change xGT kK (D + 1) 22 Q (14, [some (.int v), some (.int o), some (.int t), some (.int x)], [.int (yrG v x t)], ph, 0, 0)
    refine gt_load (v := .int v) (n := 1) (ykc_22 (e := (2, .iload_n kF0, 0)) rfl) rfl rfl ?_
    refine gt_load (v := .int o) (n := 1) (ykc_22 (e := (2, .iload_n kF1, 0)) rfl) rfl rfl ?_
    refine gt_load (v := .int t) (n := 1) (ykc_22 (e := (2, .iload_n kF2, 0)) rfl) rfl rfl ?_
    refine gt_cs (n := 3) (as := [.int v, .int o, .int t]) (r := [.int (yrG v x t)]) (ykc_22 (e := (6, .invokestatic 55, 0)) rfl) rfl rfl rfl rfl (ygain (D := D)) rfl (fun vv ph2 hv => ?_)
    obtain ⟨z, e9, e8, z_s⟩ := hv; subst z_s e9; have e7 := e8.symm; subst e7
    change xGT kK (D + 1) 22 Q (20, [some (.int v), some (.int o), some (.int t), some (.int x)], [.int (yrG v o t), .int (yrG v x t)], ph, 0, 0)
    by_cases hle : (yrG v x t).toInt ≤ (yrG v o t).toInt
    · refine gt_ile_t (ykc_22 (e := (4, .if_icmp .le 5, 25)) rfl) hle ?_
      refine gt_store (L' := [some (.int v), some (.int o), some (.int t), some (.int (x + Int32.ofInt 1))]) (st' := []) (n := 3) (ykc_22 (e := (3, .iinc 3 1, 0)) rfl) rfl rfl ?_
      refine gt_br (pc' := 2) (st' := []) (ykc_22 (e := (4, .goto (-26), 2)) rfl) rfl ?_
      exact ih (k + 1) _ (by omega) (ysuc hx (by omega)) (by rw [yrA_s (b := true) (by unfold yrL; rw [← hx]; exact decide_eq_true hle), hA]; rfl)
    · refine gt_ile_f (ykc_22 (e := (4, .if_icmp .le 5, 25)) rfl) (by omega) rfl ?_
      refine gt_alu (st' := [.int (Int32.ofInt 0)]) (ykc_22 (e := (0, .iconst 0, 0)) rfl) rfl rfl ?_
      refine gt_ret (ykc_22 (e := (7, .ireturn, 0)) rfl) (xretz (by decide) (by decide)) ?_
      have hB : yrA v o t 10 = false := by
        have h := yrA_f (k := k + 1) (by rw [yrA_s (v := v) (o := o) (t := t) (k := k) (b := false) (by unfold yrL; rw [← hx]; exact decide_eq_false hle), hA]; rfl) r
        rw [show k + 1 + r = 10 by omega] at h
        exact h
      rw [hB] at kk
      exact kk
set_option maxRecDepth 6000 in
theorem ybest : ∃ r ph', pm_Rd kK false (D + 1 + 1) 22 [.int v, .int o, .int t] ph (r, ph', 0, 0) ∧ (∃ z : Int32, r = some (.int z) ∧ ph' = ph ∧ z = yrI (yrA v o t 10)) := by
  refine xRd_mk (nl := 4) rfl rfl ?_
  show xGT kK (D + 1) 22 _ (0, [some (.int v), some (.int o), some (.int t), none], [], ph, 0, 0)
  refine gt_alu (st' := [.int (Int32.ofInt 0)]) (ykc_22 (e := (0, .iconst 0, 0)) rfl) rfl rfl ?_
  refine gt_store (L' := [some (.int v), some (.int o), some (.int t), some (.int (Int32.ofInt 0))]) (st' := []) (n := 1) (ykc_22 (e := (3, .istore_n kF3, 0)) rfl) rfl rfl ?_
  exact ybestL ⟨_, rfl, rfl, rfl⟩ 10 0 _ rfl (by decide) rfl
set_option maxRecDepth 6000 in
theorem yrestL (kk : Q (some (.int (yrI (yrA v o t 10)))) ph) : ∀ (r k : Nat) (x b : Int32), k + r = 10 → x = Int32.ofNat k → b = yrI (yrA v o t k) → xGT kK (D + 1) 292 Q (5, [some (.int o), some (.int t), some (.int v), some (.int b), some (.int x)], [], ph, 0, 0) := by
  intro r
  induction r with
  | zero =>
    intro k x b hk hx hA
    obtain rfl : k = 10 := by omega
    have hx2 : x.toInt = 10 := by rw [hx]; decide
    refine gt_load (v := .int x) (n := 2) (ykc_292 (e := (2, .iload 4, 0)) rfl) rfl rfl ?_
    refine gt_push (v := .int ((Int8.ofInt 9).toInt32)) (n := 2) (ykc_292 (e := (1, .bipush 9, 0)) rfl) rfl rfl ?_
    refine gt_igt_t (ykc_292 (e := (4, .if_icmp .gt 35, 44)) rfl) (by rw [yb9]; omega) ?_
    refine gt_load (v := .int b) (n := 1) (ykc_292 (e := (2, .iload_n kF3, 0)) rfl) rfl rfl ?_
    refine gt_ret (ykc_292 (e := (7, .ireturn, 0)) rfl) (xretz (by rw [hA]; exact (yrI_b _).1) (by rw [hA]; exact (yrI_b _).2)) ?_
    rw [hA]
    exact kk
  | succ r ih =>
    intro k x b hk hx hA
    have hx2 : x.toInt = (k : Int) := by rw [hx]; exact ynat (by omega)
    refine gt_load (v := .int x) (n := 2) (ykc_292 (e := (2, .iload 4, 0)) rfl) rfl rfl ?_
    refine gt_push (v := .int ((Int8.ofInt 9).toInt32)) (n := 2) (ykc_292 (e := (1, .bipush 9, 0)) rfl) rfl rfl ?_
    refine gt_igt_f (ykc_292 (e := (4, .if_icmp .gt 35, 44)) rfl) (by rw [yb9]; omega) rfl ?_
    refine gt_load (v := .int b) (n := 1) (ykc_292 (e := (2, .iload_n kF3, 0)) rfl) rfl rfl ?_
    cases hk1 : yrA v o t k with
    | true =>
      rw [hk1] at hA
      refine gt_zeq_f (ykc_292 (e := (4, .ifCond .eq 23, 36)) rfl) (by rw [hA]; decide) rfl ?_
      refine gt_load (v := .int x) (n := 2) (ykc_292 (e := (2, .iload 4, 0)) rfl) rfl rfl ?_
      refine gt_load (v := .int t) (n := 1) (ykc_292 (e := (2, .iload_n kF1, 0)) rfl) rfl rfl ?_
      refine gt_load (v := .int v) (n := 1) (ykc_292 (e := (2, .iload_n kF2, 0)) rfl) rfl rfl ?_
      refine gt_cs (n := 3) (as := [.int x, .int t, .int v]) (r := []) (ykc_292 (e := (6, .invokestatic 463, 0)) rfl) rfl rfl rfl rfl (ygets (D := D)) rfl (fun vv ph101 hv => ?_)
      obtain ⟨z, e9, e8, z_s⟩ := hv; subst z_s e9; have e7 := e8.symm; subst e7
      change xGT kK (D + 1) 292 Q (23, [some (.int o), some (.int t), some (.int v), some (.int b), some (.int x)], [.int (yrG v x t)], ph, 0, 0)
      refine gt_load (v := .int o) (n := 1) (ykc_292 (e := (2, .iload_n kF0, 0)) rfl) rfl rfl ?_
      refine gt_load (v := .int t) (n := 1) (ykc_292 (e := (2, .iload_n kF1, 0)) rfl) rfl rfl ?_
      refine gt_load (v := .int v) (n := 1) (ykc_292 (e := (2, .iload_n kF2, 0)) rfl) rfl rfl ?_
      refine gt_cs (n := 3) (as := [.int o, .int t, .int v]) (r := [.int (yrG v x t)]) (ykc_292 (e := (6, .invokestatic 463, 0)) rfl) rfl rfl rfl rfl (ygets (D := D)) rfl (fun vv ph102 hv => ?_)
      obtain ⟨z, e9, e8, z_s⟩ := hv; subst z_s e9; have e7 := e8.symm; subst e7
      change xGT kK (D + 1) 292 Q (29, [some (.int o), some (.int t), some (.int v), some (.int b), some (.int x)], [.int (yrG v o t), .int (yrG v x t)], ph, 0, 0)
      by_cases hle : (yrG v x t).toInt ≤ (yrG v o t).toInt
      · refine gt_igt_f (ykc_292 (e := (4, .if_icmp .gt 7, 36)) rfl) hle rfl ?_
        refine gt_alu (st' := [.int (Int32.ofInt 1)]) (ykc_292 (e := (0, .iconst 1, 0)) rfl) rfl rfl ?_
        refine gt_br (pc' := 37) (st' := [.int (Int32.ofInt 1)]) (ykc_292 (e := (4, .goto 4, 37)) rfl) rfl ?_
        refine gt_store (L' := [some (.int o), some (.int t), some (.int v), some (.int (Int32.ofInt 1)), some (.int x)]) (st' := []) (n := 1) (ykc_292 (e := (3, .istore_n kF3, 0)) rfl) rfl rfl ?_
        refine gt_store (L' := [some (.int o), some (.int t), some (.int v), some (.int (Int32.ofInt 1)), some (.int (x + Int32.ofInt 1))]) (st' := []) (n := 3) (ykc_292 (e := (3, .iinc 4 1, 0)) rfl) rfl rfl ?_
        refine gt_br (pc' := 5) (st' := []) (ykc_292 (e := (4, .goto (-36), 5)) rfl) rfl ?_
        exact ih (k + 1) _ _ (by omega) (ysuc hx (by omega)) (by rw [yrA_s (b := true) (by unfold yrL; rw [← hx]; exact decide_eq_true hle), hk1]; rfl)
      · refine gt_igt_t (ykc_292 (e := (4, .if_icmp .gt 7, 36)) rfl) (by omega) ?_
        refine gt_alu (st' := [.int (Int32.ofInt 0)]) (ykc_292 (e := (0, .iconst 0, 0)) rfl) rfl rfl ?_
        refine gt_store (L' := [some (.int o), some (.int t), some (.int v), some (.int (Int32.ofInt 0)), some (.int x)]) (st' := []) (n := 1) (ykc_292 (e := (3, .istore_n kF3, 0)) rfl) rfl rfl ?_
        refine gt_store (L' := [some (.int o), some (.int t), some (.int v), some (.int (Int32.ofInt 0)), some (.int (x + Int32.ofInt 1))]) (st' := []) (n := 3) (ykc_292 (e := (3, .iinc 4 1, 0)) rfl) rfl rfl ?_
        refine gt_br (pc' := 5) (st' := []) (ykc_292 (e := (4, .goto (-36), 5)) rfl) rfl ?_
        exact ih (k + 1) _ _ (by omega) (ysuc hx (by omega)) (by rw [yrA_s (b := false) (by unfold yrL; rw [← hx]; exact decide_eq_false hle), hk1]; rfl)
    | false =>
      rw [hk1] at hA
      refine gt_zeq_t (ykc_292 (e := (4, .ifCond .eq 23, 36)) rfl) (by rw [hA]; decide) ?_
      refine gt_alu (st' := [.int (Int32.ofInt 0)]) (ykc_292 (e := (0, .iconst 0, 0)) rfl) rfl rfl ?_
      refine gt_store (L' := [some (.int o), some (.int t), some (.int v), some (.int (Int32.ofInt 0)), some (.int x)]) (st' := []) (n := 1) (ykc_292 (e := (3, .istore_n kF3, 0)) rfl) rfl rfl ?_
      refine gt_store (L' := [some (.int o), some (.int t), some (.int v), some (.int (Int32.ofInt 0)), some (.int (x + Int32.ofInt 1))]) (st' := []) (n := 3) (ykc_292 (e := (3, .iinc 4 1, 0)) rfl) rfl rfl ?_
      refine gt_br (pc' := 5) (st' := []) (ykc_292 (e := (4, .goto (-36), 5)) rfl) rfl ?_
      exact ih (k + 1) _ _ (by omega) (ysuc hx (by omega)) (by rw [yrA_f hk1 1]; rfl)
set_option maxRecDepth 6000 in
theorem yrest : ∃ r ph', pm_Rd kK false (D + 1 + 1) 292 [.int o, .int t, .int v] ph (r, ph', 0, 0) ∧ (∃ z : Int32, r = some (.int z) ∧ ph' = ph ∧ z = yrI (yrA v o t 10)) := by
  refine xRd_mk (nl := 5) rfl rfl ?_
  show xGT kK (D + 1) 292 _ (0, [some (.int o), some (.int t), some (.int v), none, none], [], ph, 0, 0)
  refine gt_alu (st' := [.int (Int32.ofInt 1)]) (ykc_292 (e := (0, .iconst 1, 0)) rfl) rfl rfl ?_
  refine gt_store (L' := [some (.int o), some (.int t), some (.int v), some (.int (Int32.ofInt 1)), none]) (st' := []) (n := 1) (ykc_292 (e := (3, .istore_n kF3, 0)) rfl) rfl rfl ?_
  refine gt_alu (st' := [.int (Int32.ofInt 0)]) (ykc_292 (e := (0, .iconst 0, 0)) rfl) rfl rfl ?_
  refine gt_store (L' := [some (.int o), some (.int t), some (.int v), some (.int (Int32.ofInt 1)), some (.int (Int32.ofInt 0))]) (st' := []) (n := 2) (ykc_292 (e := (3, .istore 4, 0)) rfl) rfl rfl ?_
  exact yrestL ⟨_, rfl, rfl, rfl⟩ 10 0 _ _ rfl (by decide) rfl
end YR
def ynd57 : xnd × List Nat := ((0, [some (.inr (.inr (.inl 46)))], [], 0, (Int.ofNat 0, [])), [])
def ynd58 : xnd × List Nat := ((0, [some (.inr (.inr (.inl 46))), some (.inr (.inl (Int.negSucc 9223372036854775807, Int.ofNat 9223372036854775807))), none], [], 0, (Int.ofNat 0, [])), [])
set_option maxRecDepth 6000 in
theorem yck57 : xnchk xX (fun _ => none) xt_57 [] [[ynd57]] (some (.inr (.inr (.inl 46)))) [] 600 ynd57 = true := by decide +kernel
set_option maxRecDepth 6000 in
theorem yck58 : xnchk xX (fun _ => none) xt_58 [] [[ynd58]] (some (.inr (.inr (.inl 46)))) [] 600 ynd58 = true := by decide +kernel
set_option maxRecDepth 6000 in
theorem yn_57 {E : pm_H → Prop} (hE : xHE xX xgA_G9 xgF_G9 E) : xcon xX kK E 1 57 [.inr (.inr (.inl 46))] [] 0 (some (.inr (.inr (.inl 46)))) [] := xnodes_ok (nl := 1) (f := 600) (sp := fun _ => none) (T := xt_57) (cps := []) (ns := [[ynd57]]) rfl rfl (xq_57 (xHE_sub (by decide +kernel) (by decide +kernel) hE)) rfl (List.forall_mem_cons.mpr ⟨List.forall_mem_cons.mpr ⟨yck57, fun _ h => absurd h List.not_mem_nil⟩, fun _ h => absurd h List.not_mem_nil⟩)
set_option maxRecDepth 6000 in
theorem yn_58 {E : pm_H → Prop} (hE : xHE xX xgA_G9 xgF_G9 E) : xcon xX kK E 1 58 [.inr (.inr (.inl 46)), .inr (.inl (Int.negSucc 9223372036854775807, Int.ofNat 9223372036854775807))] [] 0 (some (.inr (.inr (.inl 46)))) [] := xnodes_ok (nl := 3) (f := 600) (sp := fun _ => none) (T := xt_58) (cps := []) (ns := [[ynd58]]) rfl rfl (xq_58 hE) rfl (List.forall_mem_cons.mpr ⟨List.forall_mem_cons.mpr ⟨yck58, fun _ h => absurd h List.not_mem_nil⟩, fun _ h => absurd h List.not_mem_nil⟩)
section YS
variable {E : pm_H → Prop} {m : Int} {D : Nat} {ph : pm_H} {v : Int32} {Q : Option Value → pm_H → Prop}
set_option maxRecDepth 6000 in
theorem yanew (hE : xHE xX xgA_G9 xgF_G9 E) (hm : m ≤ 2147483646) (h0m : (0 : Int) ≤ m) (hP : xH xX kK m 0 ph) (g9 : E ph) : ∃ r ph', pm_Rd kK false (D + 1) 57 [.ref 3] ph (r, ph', 0, 0) ∧ (r = some (.ref 3) ∧ xH xX kK m 0 ph' ∧ E ph') := by
  obtain ⟨r, ph1, a1, a2, a3, ⟨u, e, e2⟩, -⟩ := yn_57 hE (D + 1) (by omega) m hm h0m [.ref 3] ph ⟨xaRi rfl (by decide), trivial⟩ (fun _ _ h => absurd h List.not_mem_nil) hP g9
  have e4 : u = .ref 3 := xaO (m' := m) (A := 3) hP rfl e2
  subst e e4
  exact ⟨_, ph1, a1, rfl, a2, a3⟩
set_option maxRecDepth 6000 in
theorem yadd {z : Int64} (hE : xHE xX xgA_G9 xgF_G9 E) (hm : m ≤ 2147483646) (h0m : (0 : Int) ≤ m) (hP : xH xX kK m 0 ph) (g9 : E ph) : ∃ r ph', pm_Rd kK false (D + 1) 58 [.ref 3, .long z] ph (r, ph', 0, 0) ∧ (r = some (.ref 3) ∧ xH xX kK m 0 ph' ∧ E ph') := by
  obtain ⟨r, ph1, a1, a2, a3, ⟨u, e, e2⟩, -⟩ := yn_58 hE (D + 1) (by omega) m hm h0m [.ref 3, .long z] ph ⟨xaRi rfl (by decide), xaL, trivial⟩ (fun _ _ h => absurd h List.not_mem_nil) hP g9
  have e4 : u = .ref 3 := xaO (m' := m) (A := 3) hP rfl e2
  subst e e4
  exact ⟨_, ph1, a1, rfl, a2, a3⟩
set_option maxRecDepth 6000 in
theorem ypairI (hE : xHE xX xgA_G9 xgF_G9 E) (hm : m ≤ 2147483646) (h0m : (0 : Int) ≤ m) {g : Option Value} {x : Nat} (hx9 : x ≤ 9) {X : Int32} (hX : X = Int32.ofNat x) (kk : ∀ (f Y : Int32) (ph : pm_H), f.toInt = (yrC v (10 * x + 10) : Int) → xH xX kK m 0 ph → E ph → xGT kK (D + 1 + 1) 21 Q (74, [g, some (.int v), some (.ref 3), some (.int f), some (.int X), some (.int Y)], [], ph, 0, 0)) : ∀ (r y : Nat) (f Y : Int32) (ph : pm_H), y + r = 10 → Y = Int32.ofNat y → f.toInt = (yrC v (10 * x + y) : Int) → xH xX kK m 0 ph → E ph → xGT kK (D + 1 + 1) 21 Q (15, [g, some (.int v), some (.ref 3), some (.int f), some (.int X), some (.int Y)], [], ph, 0, 0) := by
  intro r
  induction r with
  | zero =>
    intro y f Y ph hy hY hf hP g9
    obtain rfl : y = 10 := by omega
    have hY2 : Y.toInt = 10 := by rw [hY]; decide
    refine gt_load (v := .int Y) (n := 2) (ykc_21 (e := (2, .iload 5, 0)) rfl) rfl rfl ?_
    refine gt_push (v := .int ((Int8.ofInt 9).toInt32)) (n := 2) (ykc_21 (e := (1, .bipush 9, 0)) rfl) rfl rfl ?_
    refine gt_igt_t (ykc_21 (e := (4, .if_icmp .gt 55, 74)) rfl) (by rw [yb9]; omega) ?_
    exact kk _ _ _ hf hP g9
  | succ r ih =>
    intro y f Y ph hy hY hf hP g9
    have hY2 : Y.toInt = (y : Int) := by rw [hY]; exact ynat (by omega)
    have hfl := yrC_le v (10 * x + y)
    refine gt_load (v := .int Y) (n := 2) (ykc_21 (e := (2, .iload 5, 0)) rfl) rfl rfl ?_
    refine gt_push (v := .int ((Int8.ofInt 9).toInt32)) (n := 2) (ykc_21 (e := (1, .bipush 9, 0)) rfl) rfl rfl ?_
    refine gt_igt_f (ykc_21 (e := (4, .if_icmp .gt 55, 74)) rfl) (by rw [yb9]; omega) rfl ?_
    refine gt_load (v := .int v) (n := 1) (ykc_21 (e := (2, .iload_n kF1, 0)) rfl) rfl rfl ?_
    refine gt_load (v := .int X) (n := 2) (ykc_21 (e := (2, .iload 4, 0)) rfl) rfl rfl ?_
    refine gt_load (v := .int Y) (n := 2) (ykc_21 (e := (2, .iload 5, 0)) rfl) rfl rfl ?_
    refine gt_cs (n := 3) (as := [.int v, .int X, .int Y]) (r := []) (ykc_21 (e := (6, .invokestatic 51, 0)) rfl) rfl rfl rfl rfl (ybest (D := D)) rfl (fun vv ph1 hv => ?_)
    obtain ⟨z, e9, e8, z_s⟩ := hv; subst z_s e9; have e7 := e8.symm; subst e7
    change xGT kK (D + 1 + 1) 21 Q (30, [g, some (.int v), some (.ref 3), some (.int f), some (.int X), some (.int Y)], [.int (yrI (yrA v X Y 10))], ph, 0, 0)
    cases hA : yrA v X Y 10 with
    | true =>
      refine gt_zeq_f (ykc_21 (e := (4, .ifCond .eq 38, 68)) rfl) (by decide) rfl ?_
      refine gt_load (v := .int v) (n := 1) (ykc_21 (e := (2, .iload_n kF1, 0)) rfl) rfl rfl ?_
      refine gt_load (v := .int Y) (n := 2) (ykc_21 (e := (2, .iload 5, 0)) rfl) rfl rfl ?_
      refine gt_load (v := .int X) (n := 2) (ykc_21 (e := (2, .iload 4, 0)) rfl) rfl rfl ?_
      refine gt_cs (n := 3) (as := [.int v, .int Y, .int X]) (r := []) (ykc_21 (e := (6, .invokestatic 51, 0)) rfl) rfl rfl rfl rfl (ybest (D := D)) rfl (fun vv ph102 hv => ?_)
      obtain ⟨z, e9, e8, z_s⟩ := hv; subst z_s e9; have e7 := e8.symm; subst e7
      change xGT kK (D + 1 + 1) 21 Q (41, [g, some (.int v), some (.ref 3), some (.int f), some (.int X), some (.int Y)], [.int (yrI (yrA v Y X 10))], ph, 0, 0)
      cases hB : yrA v Y X 10 with
      | true =>
        refine gt_zne_t (ykc_21 (e := (4, .ifCond .ne 6, 47)) rfl) (by decide) ?_
        refine gt_load (v := .int f) (n := 1) (ykc_21 (e := (2, .iload_n kF3, 0)) rfl) rfl rfl ?_
        by_cases hz : f.toInt = 0
        · refine gt_zne_f (ykc_21 (e := (4, .ifCond .ne 17, 65)) rfl) hz rfl ?_
          refine gt_load (v := .ref 3) (n := 1) (ykc_21 (e := (2, .aload_n kF2, 0)) rfl) rfl rfl ?_
          refine gt_load (v := .int X) (n := 2) (ykc_21 (e := (2, .iload 4, 0)) rfl) rfl rfl ?_
          refine gt_alu (st' := [.long X.toInt64, .ref 3]) (ykc_21 (e := (0, .i2l, 0)) rfl) rfl rfl ?_
          obtain ⟨fl1, hat1, -⟩ := xO_at (a := 3) hP rfl rfl
          refine gt_call (r := []) (ykc_21 (e := (6, .invokevirtual 45, 0)) rfl) (xinvV rfl rfl hat1 rfl rfl) (yadd (D := D + 1) (z := X.toInt64) hE hm h0m hP g9) rfl (fun vv ph1 hv => ?_)
          obtain ⟨e9, hP1, g91⟩ := hv; subst e9
          change xGT kK (D + 1 + 1) 21 Q (58, [g, some (.int v), some (.ref 3), some (.int f), some (.int X), some (.int Y)], [.ref 3], ph1, 0, 0)
          refine gt_load (v := .int Y) (n := 2) (ykc_21 (e := (2, .iload 5, 0)) rfl) rfl rfl ?_
          refine gt_alu (st' := [.long Y.toInt64, .ref 3]) (ykc_21 (e := (0, .i2l, 0)) rfl) rfl rfl ?_
          obtain ⟨fl2, hat2, -⟩ := xO_at (a := 3) hP1 rfl rfl
          refine gt_call (r := []) (ykc_21 (e := (6, .invokevirtual 45, 0)) rfl) (xinvV rfl rfl hat2 rfl rfl) (yadd (D := D + 1) (z := Y.toInt64) hE hm h0m hP1 g91) rfl (fun vv ph2 hv => ?_)
          obtain ⟨e9, hP2, g92⟩ := hv; subst e9
          change xGT kK (D + 1 + 1) 21 Q (64, [g, some (.int v), some (.ref 3), some (.int f), some (.int X), some (.int Y)], [.ref 3], ph2, 0, 0)
          refine gt_alu (st' := []) (ykc_21 (e := (0, .pop, 0)) rfl) rfl rfl ?_
          obtain ⟨f1, e_f1, h_f1⟩ : ∃ zq : Int32, f + Int32.ofInt 1 = zq ∧ zq.toInt = f.toInt + 1 := ⟨_, rfl, by rw [ti_add (by rw [yn1]; omega) (by rw [yn1]; omega), yn1]⟩
          refine gt_store (L' := [g, some (.int v), some (.ref 3), some (.int f1), some (.int X), some (.int Y)]) (st' := []) (n := 3) (ykc_21 (e := (3, .iinc 3 1, 0)) rfl) (by rw [← e_f1]; rfl) rfl ?_
          refine gt_store (L' := [g, some (.int v), some (.ref 3), some (.int f1), some (.int X), some (.int (Y + Int32.ofInt 1))]) (st' := []) (n := 3) (ykc_21 (e := (3, .iinc 5 1, 0)) rfl) rfl rfl ?_
          refine gt_br (pc' := 15) (st' := []) (ykc_21 (e := (4, .goto (-56), 15)) rfl) rfl ?_
          exact ih (y + 1) _ _ _ (by omega) (ysuc hY (by omega)) (by rw [h_f1]; exact (by rw [show 10 * x + (y + 1) = 10 * x + y + 1 by omega, yrC_s (b := true) (by omega) (by rw [← hX, ← hY]; unfold yrW; rw [hA, hB]; rfl)]; show f.toInt + 1 = ((yrC v (10 * x + y) + 1 : Nat) : Int); omega)) hP2 g92
        · refine gt_zne_t (ykc_21 (e := (4, .ifCond .ne 17, 65)) rfl) hz ?_
          obtain ⟨f1, e_f1, h_f1⟩ : ∃ zq : Int32, f + Int32.ofInt 1 = zq ∧ zq.toInt = f.toInt + 1 := ⟨_, rfl, by rw [ti_add (by rw [yn1]; omega) (by rw [yn1]; omega), yn1]⟩
          refine gt_store (L' := [g, some (.int v), some (.ref 3), some (.int f1), some (.int X), some (.int Y)]) (st' := []) (n := 3) (ykc_21 (e := (3, .iinc 3 1, 0)) rfl) (by rw [← e_f1]; rfl) rfl ?_
          refine gt_store (L' := [g, some (.int v), some (.ref 3), some (.int f1), some (.int X), some (.int (Y + Int32.ofInt 1))]) (st' := []) (n := 3) (ykc_21 (e := (3, .iinc 5 1, 0)) rfl) rfl rfl ?_
          refine gt_br (pc' := 15) (st' := []) (ykc_21 (e := (4, .goto (-56), 15)) rfl) rfl ?_
          exact ih (y + 1) _ _ _ (by omega) (ysuc hY (by omega)) (by rw [h_f1]; exact (by rw [show 10 * x + (y + 1) = 10 * x + y + 1 by omega, yrC_s (b := true) (by omega) (by rw [← hX, ← hY]; unfold yrW; rw [hA, hB]; rfl)]; show f.toInt + 1 = ((yrC v (10 * x + y) + 1 : Nat) : Int); omega)) hP g9
      | false =>
        refine gt_zne_f (ykc_21 (e := (4, .ifCond .ne 6, 47)) rfl) (by decide) rfl ?_
        refine gt_br (pc' := 68) (st' := []) (ykc_21 (e := (4, .goto 24, 68)) rfl) rfl ?_
        refine gt_store (L' := [g, some (.int v), some (.ref 3), some (.int f), some (.int X), some (.int (Y + Int32.ofInt 1))]) (st' := []) (n := 3) (ykc_21 (e := (3, .iinc 5 1, 0)) rfl) rfl rfl ?_
        refine gt_br (pc' := 15) (st' := []) (ykc_21 (e := (4, .goto (-56), 15)) rfl) rfl ?_
        exact ih (y + 1) _ _ _ (by omega) (ysuc hY (by omega)) (by rw [show 10 * x + (y + 1) = 10 * x + y + 1 by omega, yrC_s (b := false) (by omega) (by rw [← hX, ← hY]; unfold yrW; rw [hA, hB]; rfl)]; show f.toInt = ((yrC v (10 * x + y) + 0 : Nat) : Int); omega) hP g9
    | false =>
      refine gt_zeq_t (ykc_21 (e := (4, .ifCond .eq 38, 68)) rfl) (by decide) ?_
      refine gt_store (L' := [g, some (.int v), some (.ref 3), some (.int f), some (.int X), some (.int (Y + Int32.ofInt 1))]) (st' := []) (n := 3) (ykc_21 (e := (3, .iinc 5 1, 0)) rfl) rfl rfl ?_
      refine gt_br (pc' := 15) (st' := []) (ykc_21 (e := (4, .goto (-56), 15)) rfl) rfl ?_
      exact ih (y + 1) _ _ _ (by omega) (ysuc hY (by omega)) (by rw [show 10 * x + (y + 1) = 10 * x + y + 1 by omega, yrC_s (b := false) (by omega) (by rw [← hX, ← hY]; unfold yrW; rw [hA]; rfl)]; show f.toInt = ((yrC v (10 * x + y) + 0 : Nat) : Int); omega) hP g9
set_option maxRecDepth 6000 in
theorem ypairO (hE : xHE xX xgA_G9 xgF_G9 E) (hm : m ≤ 2147483646) (h0m : (0 : Int) ≤ m) {g : Option Value} (kk : ∀ (f : Int32) (ph : pm_H), f = Int32.ofNat (yrC v 100) → xH xX kK m 0 ph → E ph → Q (some (.int f)) ph) : ∀ (r x : Nat) (f X : Int32) (y0 : Option Value) (ph : pm_H), x + r = 10 → X = Int32.ofNat x → f.toInt = (yrC v (10 * x) : Int) → xH xX kK m 0 ph → E ph → xGT kK (D + 1 + 1) 21 Q (5, [g, some (.int v), some (.ref 3), some (.int f), some (.int X), y0], [], ph, 0, 0) := by
  intro r
  induction r with
  | zero =>
    intro x f X y0 ph hx hX hf hP g9
    obtain rfl : x = 10 := by omega
    have hX2 : X.toInt = 10 := by rw [hX]; decide
    refine gt_load (v := .int X) (n := 2) (ykc_21 (e := (2, .iload 4, 0)) rfl) rfl rfl ?_
    refine gt_push (v := .int ((Int8.ofInt 9).toInt32)) (n := 2) (ykc_21 (e := (1, .bipush 9, 0)) rfl) rfl rfl ?_
    refine gt_igt_t (ykc_21 (e := (4, .if_icmp .gt 71, 80)) rfl) (by rw [yb9]; omega) ?_
    refine gt_load (v := .int f) (n := 1) (ykc_21 (e := (2, .iload_n kF3, 0)) rfl) rfl rfl ?_
    refine gt_ret (ykc_21 (e := (7, .ireturn, 0)) rfl) rfl ?_
    have hl := yrC_le v 100
    exact kk _ _ (Int32.toInt_inj.mp (by rw [hf, ynat (by omega)])) hP g9
  | succ r ih =>
    intro x f X y0 ph hx hX hf hP g9
    have hX2 : X.toInt = (x : Int) := by rw [hX]; exact ynat (by omega)
    refine gt_load (v := .int X) (n := 2) (ykc_21 (e := (2, .iload 4, 0)) rfl) rfl rfl ?_
    refine gt_push (v := .int ((Int8.ofInt 9).toInt32)) (n := 2) (ykc_21 (e := (1, .bipush 9, 0)) rfl) rfl rfl ?_
    refine gt_igt_f (ykc_21 (e := (4, .if_icmp .gt 71, 80)) rfl) (by rw [yb9]; omega) rfl ?_
    refine gt_alu (st' := [.int (Int32.ofInt 0)]) (ykc_21 (e := (0, .iconst 0, 0)) rfl) rfl rfl ?_
    refine gt_store (L' := [g, some (.int v), some (.ref 3), some (.int f), some (.int X), some (.int (Int32.ofInt 0))]) (st' := []) (n := 2) (ykc_21 (e := (3, .istore 5, 0)) rfl) rfl rfl ?_
    refine ypairI hE hm h0m (by omega) hX (fun f' Y' ph' hf' hP' g9' => ?_) 10 0 _ _ _ rfl (by decide) hf hP g9
    refine gt_store (L' := [g, some (.int v), some (.ref 3), some (.int (f')), some (.int (X + Int32.ofInt 1)), some (.int (Y'))]) (st' := []) (n := 3) (ykc_21 (e := (3, .iinc 4 1, 0)) rfl) rfl rfl ?_
    refine gt_br (pc' := 5) (st' := []) (ykc_21 (e := (4, .goto (-72), 5)) rfl) rfl ?_
    exact ih (x + 1) _ _ _ _ (by omega) (ysuc hX (by omega)) hf' hP' g9'
set_option maxRecDepth 6000 in
theorem ypair {g : Nat} (hE : xHE xX xgA_G9 xgF_G9 E) (hm : m ≤ 2147483646) (h0m : (0 : Int) ≤ m) (hP : xH xX kK m 0 ph) (g9 : E ph) : ∃ r ph', pm_Rd kK false (D + 1 + 1 + 1) 21 [.ref g, .int v, .ref 3] ph (r, ph', 0, 0) ∧ (r = some (.int (Int32.ofNat (yrC v 100))) ∧ xH xX kK m 0 ph' ∧ E ph') := by
  refine xRd_mk (nl := 6) rfl rfl ?_
  show xGT kK (D + 1 + 1) 21 _ (0, [some (.ref g), some (.int v), some (.ref 3), none, none, none], [], ph, 0, 0)
  refine gt_alu (st' := [.int (Int32.ofInt 0)]) (ykc_21 (e := (0, .iconst 0, 0)) rfl) rfl rfl ?_
  refine gt_store (L' := [some (.ref g), some (.int v), some (.ref 3), some (.int (Int32.ofInt 0)), none, none]) (st' := []) (n := 1) (ykc_21 (e := (3, .istore_n kF3, 0)) rfl) rfl rfl ?_
  refine gt_alu (st' := [.int (Int32.ofInt 0)]) (ykc_21 (e := (0, .iconst 0, 0)) rfl) rfl rfl ?_
  refine gt_store (L' := [some (.ref g), some (.int v), some (.ref 3), some (.int (Int32.ofInt 0)), some (.int (Int32.ofInt 0)), none]) (st' := []) (n := 2) (ykc_21 (e := (3, .istore 4, 0)) rfl) rfl rfl ?_
  exact ypairO hE hm h0m (fun f ph1 h1 h2 h3 => ⟨by rw [h1], h2, h3⟩) 10 0 _ _ _ _ rfl (by decide) yrC_00 hP g9
set_option maxRecDepth 6000 in
theorem yrestsC (hE : xHE xX xgA_G9 xgF_G9 E) (hm : m ≤ 2147483646) (h0m : (0 : Int) ≤ m) (hP : xH xX kK m 0 ph) (g9 : E ph) : ∃ r ph', pm_Rd kK false (D + 1 + 1 + 1 + 1) 174 [.ref 0, .int v] ph (r, ph', 0, 0) ∧ (r = some (.int (yrR v)) ∧ xH xX kK m 0 ph' ∧ E ph') := by
  refine xRd_mk (nl := 2) rfl rfl ?_
  show xGT kK (D + 1 + 1 + 1) 174 _ (0, [some (.ref 0), some (.int v)], [], ph, 0, 0)
  refine gt_load (v := .int v) (n := 1) (ykc_174 (e := (2, .iload_n kF1, 0)) rfl) rfl rfl ?_
  by_cases h0 : v.toInt < 0
  · refine gt_zlt_t (ykc_174 (e := (4, .ifCond .lt 9, 10)) rfl) h0 ?_
    refine gt_alu (st' := [.int (Int32.ofInt (-1))]) (ykc_174 (e := (0, .iconst (-1), 0)) rfl) rfl rfl ?_
    refine gt_ret (ykc_174 (e := (7, .ireturn, 0)) rfl) rfl ?_
    exact ⟨by unfold yrR; rw [if_neg (by omega)], hP, g9⟩
  · refine gt_zlt_f (ykc_174 (e := (4, .ifCond .lt 9, 10)) rfl) (by omega) rfl ?_
    refine gt_load (v := .int v) (n := 1) (ykc_174 (e := (2, .iload_n kF1, 0)) rfl) rfl rfl ?_
    refine gt_push (v := .int ((Int8.ofInt 20).toInt32)) (n := 2) (ykc_174 (e := (1, .bipush 20, 0)) rfl) rfl rfl ?_
    by_cases h1 : v.toInt ≤ 20
    · refine gt_ile_t (ykc_174 (e := (4, .if_icmp .le 5, 12)) rfl) (by rw [yb20]; omega) ?_
      obtain ⟨fl0, hat0, hfl0⟩ := xO_at (a := 0) hP rfl rfl
      obtain ⟨v4, hv4, hv⟩ := hfl0 12 _ rfl
      obtain ⟨v5, hv5, hw⟩ := hfl0 1 _ rfl
      have e4 : v4 = .ref 167 := xaO (m' := 0) (A := 167) hP rfl hv
      have e5 : v5 = .ref 3 := xaO (m' := 0) (A := 3) hP rfl hw
      subst e4 e5
      refine gt_load (v := .ref 0) (n := 1) (ykc_174 (e := (2, .aload_n kF0, 0)) rfl) rfl rfl ?_
      refine gt_gfo (ykc_174 (e := (5, .getfield 90, 0)) rfl) rfl hat0 hv4 rfl ?_
      refine gt_load (v := .int v) (n := 1) (ykc_174 (e := (2, .iload_n kF1, 0)) rfl) rfl rfl ?_
      refine gt_load (v := .ref 0) (n := 1) (ykc_174 (e := (2, .aload_n kF0, 0)) rfl) rfl rfl ?_
      refine gt_gfo (ykc_174 (e := (5, .getfield 19, 0)) rfl) rfl hat0 hv5 rfl ?_
      obtain ⟨fl1, hat1, -⟩ := xO_at (a := 3) hP rfl rfl
      refine gt_call (r := [.int v, .ref 167]) (ykc_174 (e := (6, .invokevirtual 245, 0)) rfl) (xinvV rfl rfl hat1 rfl rfl) (yanew (D := D + 1 + 1) hE hm h0m hP g9) rfl (fun vv ph1 hv => ?_)
      obtain ⟨e9, hP1, g91⟩ := hv; subst e9
      change xGT kK (D + 1 + 1 + 1) 174 _ (24, [some (.ref 0), some (.int v)], [.ref 3, .int v, .ref 167], ph1, 0, 0)
      obtain ⟨fl2, hatg, -⟩ := xO_at (a := 167) hP1 rfl rfl
      refine gt_call (r := []) (ykc_174 (e := (6, .invokevirtual 394, 0)) rfl) (xinvV rfl rfl hatg rfl rfl) (ypair (D := D) hE hm h0m hP1 g91) rfl (fun vv ph2 hv => ?_)
      obtain ⟨e9, hP2, g92⟩ := hv; subst e9
      refine gt_ret (ykc_174 (e := (7, .ireturn, 0)) rfl) rfl ?_
      exact ⟨by unfold yrR; rw [if_pos ⟨by omega, h1⟩], hP2, g92⟩
    · refine gt_ile_f (ykc_174 (e := (4, .if_icmp .le 5, 12)) rfl) (by rw [yb20]; omega) rfl ?_
      refine gt_alu (st' := [.int (Int32.ofInt (-1))]) (ykc_174 (e := (0, .iconst (-1), 0)) rfl) rfl rfl ?_
      refine gt_ret (ykc_174 (e := (7, .ireturn, 0)) rfl) rfl ?_
      exact ⟨by unfold yrR; rw [if_neg (by omega)], hP, g9⟩
set_option maxRecDepth 6000 in
theorem ymI (hE : xHE xX xgA_G96 xgF_G96 E) {x : Nat} (hx9 : x ≤ 9) {X : Int32} (hX : X = Int32.ofNat x) (kk : ∀ (f Y : Int32) (ph : pm_H), f.toInt = (yrC v (10 * x + 10) : Int) → (∃ T : Int32, xget ph 170 1 = some (.int T) ∧ (f.toInt = 0 → T.toInt = 0)) → xH xX kK m 0 ph → E ph → xGT kK (D + 1 + 1) 293 Q (90, [some (.ref 170), some (.int v), some (.int f), some (.int X), some (.int Y)], [], ph, 0, 0)) : ∀ (r y : Nat) (f Y : Int32) (ph : pm_H), y + r = 10 → Y = Int32.ofNat y → f.toInt = (yrC v (10 * x + y) : Int) → (∃ T : Int32, xget ph 170 1 = some (.int T) ∧ (f.toInt = 0 → T.toInt = 0)) → xH xX kK m 0 ph → E ph → xGT kK (D + 1 + 1) 293 Q (37, [some (.ref 170), some (.int v), some (.int f), some (.int X), some (.int Y)], [], ph, 0, 0) := by
  intro r
  induction r with
  | zero =>
    intro y f Y ph hy hY hf hT hP g9
    obtain rfl : y = 10 := by omega
    have hY2 : Y.toInt = 10 := by rw [hY]; decide
    refine gt_load (v := .int Y) (n := 2) (ykc_293 (e := (2, .iload 4, 0)) rfl) rfl rfl ?_
    refine gt_push (v := .int ((Int8.ofInt 9).toInt32)) (n := 2) (ykc_293 (e := (1, .bipush 9, 0)) rfl) rfl rfl ?_
    refine gt_igt_t (ykc_293 (e := (4, .if_icmp .gt 49, 90)) rfl) (by rw [yb9]; omega) ?_
    exact kk _ _ _ hf hT hP g9
  | succ r ih =>
    intro y f Y ph hy hY hf hT hP g9
    have hT' := hT
    obtain ⟨T, ht, ht0⟩ := hT
    have hY2 : Y.toInt = (y : Int) := by rw [hY]; exact ynat (by omega)
    have hfl := yrC_le v (10 * x + y)
    refine gt_load (v := .int Y) (n := 2) (ykc_293 (e := (2, .iload 4, 0)) rfl) rfl rfl ?_
    refine gt_push (v := .int ((Int8.ofInt 9).toInt32)) (n := 2) (ykc_293 (e := (1, .bipush 9, 0)) rfl) rfl rfl ?_
    refine gt_igt_f (ykc_293 (e := (4, .if_icmp .gt 49, 90)) rfl) (by rw [yb9]; omega) rfl ?_
    refine gt_load (v := .int X) (n := 1) (ykc_293 (e := (2, .iload_n kF3, 0)) rfl) rfl rfl ?_
    refine gt_load (v := .int Y) (n := 2) (ykc_293 (e := (2, .iload 4, 0)) rfl) rfl rfl ?_
    refine gt_load (v := .int v) (n := 1) (ykc_293 (e := (2, .iload_n kF1, 0)) rfl) rfl rfl ?_
    refine gt_cs (n := 3) (as := [.int X, .int Y, .int v]) (r := []) (ykc_293 (e := (6, .invokestatic 468, 0)) rfl) rfl rfl rfl rfl (yrest (D := D)) rfl (fun vv ph1 hv => ?_)
    obtain ⟨z, e9, e8, z_s⟩ := hv; subst z_s e9; have e7 := e8.symm; subst e7
    change xGT kK (D + 1 + 1) 293 Q (51, [some (.ref 170), some (.int v), some (.int f), some (.int X), some (.int Y)], [.int (yrI (yrA v X Y 10))], ph, 0, 0)
    cases hA : yrA v X Y 10 with
    | true =>
      refine gt_zeq_f (ykc_293 (e := (4, .ifCond .eq 33, 84)) rfl) (by decide) rfl ?_
      refine gt_load (v := .int Y) (n := 2) (ykc_293 (e := (2, .iload 4, 0)) rfl) rfl rfl ?_
      refine gt_load (v := .int X) (n := 1) (ykc_293 (e := (2, .iload_n kF3, 0)) rfl) rfl rfl ?_
      refine gt_load (v := .int v) (n := 1) (ykc_293 (e := (2, .iload_n kF1, 0)) rfl) rfl rfl ?_
      refine gt_cs (n := 3) (as := [.int Y, .int X, .int v]) (r := []) (ykc_293 (e := (6, .invokestatic 468, 0)) rfl) rfl rfl rfl rfl (yrest (D := D)) rfl (fun vv ph102 hv => ?_)
      obtain ⟨z, e9, e8, z_s⟩ := hv; subst z_s e9; have e7 := e8.symm; subst e7
      change xGT kK (D + 1 + 1) 293 Q (61, [some (.ref 170), some (.int v), some (.int f), some (.int X), some (.int Y)], [.int (yrI (yrA v Y X 10))], ph, 0, 0)
      cases hB : yrA v Y X 10 with
      | true =>
        refine gt_zeq_f (ykc_293 (e := (4, .ifCond .eq 23, 84)) rfl) (by decide) rfl ?_
        refine gt_load (v := .int f) (n := 1) (ykc_293 (e := (2, .iload_n kF2, 0)) rfl) rfl rfl ?_
        by_cases hz : f.toInt = 0
        · refine gt_zne_f (ykc_293 (e := (4, .ifCond .ne 16, 81)) rfl) hz rfl ?_
          refine gt_load (v := .ref 170) (n := 1) (ykc_293 (e := (2, .aload_n kF0, 0)) rfl) rfl rfl ?_
          refine gt_load (v := .int X) (n := 1) (ykc_293 (e := (2, .iload_n kF3, 0)) rfl) rfl rfl ?_
          refine gt_alu (st' := [.long X.toInt64, .ref 170]) (ykc_293 (e := (0, .i2l, 0)) rfl) rfl rfl ?_
          refine gt_cv (n := 1) (as := [.ref 170, .long X.toInt64]) (r := []) (ykc_293 (e := (6, .invokevirtual 373, 0)) rfl) rfl hP rfl rfl rfl (xenters (D := D + 1) hP ht (by rw [ht0 hz]; decide) (by rw [ht0 hz]; decide)) rfl (fun vv ph303 hv => ?_)
          obtain ⟨t1, e9, t1_s, hPa, uPa⟩ := hv; subst e9
          change xGT kK (D + 1 + 1) 293 Q (74, [some (.ref 170), some (.int v), some (.int f), some (.int X), some (.int Y)], [], ph303, 0, 0)
          refine gt_load (v := .ref 170) (n := 1) (ykc_293 (e := (2, .aload_n kF0, 0)) rfl) rfl rfl ?_
          refine gt_load (v := .int Y) (n := 2) (ykc_293 (e := (2, .iload 4, 0)) rfl) rfl rfl ?_
          refine gt_alu (st' := [.long Y.toInt64, .ref 170]) (ykc_293 (e := (0, .i2l, 0)) rfl) rfl rfl ?_
          refine gt_cv (n := 1) (as := [.ref 170, .long Y.toInt64]) (r := []) (ykc_293 (e := (6, .invokevirtual 373, 0)) rfl) rfl hPa rfl rfl rfl (xenters (D := D + 1) hPa uPa.1 (by rw [t1_s, ht0 hz]; decide) (by rw [t1_s, ht0 hz]; decide)) rfl (fun vv ph304 hv => ?_)
          obtain ⟨t2, e9, t2_s, hPb, uPb⟩ := hv; subst e9
          change xGT kK (D + 1 + 1) 293 Q (81, [some (.ref 170), some (.int v), some (.int f), some (.int X), some (.int Y)], [], ph304, 0, 0)
          obtain ⟨f1, e_f1, h_f1⟩ : ∃ zq : Int32, f + Int32.ofInt 1 = zq ∧ zq.toInt = f.toInt + 1 := ⟨_, rfl, by rw [ti_add (by rw [yn1]; omega) (by rw [yn1]; omega), yn1]⟩
          refine gt_store (L' := [some (.ref 170), some (.int v), some (.int f1), some (.int X), some (.int Y)]) (st' := []) (n := 3) (ykc_293 (e := (3, .iinc 2 1, 0)) rfl) (by rw [← e_f1]; rfl) rfl ?_
          refine gt_store (L' := [some (.ref 170), some (.int v), some (.int f1), some (.int X), some (.int (Y + Int32.ofInt 1))]) (st' := []) (n := 3) (ykc_293 (e := (3, .iinc 4 1, 0)) rfl) rfl rfl ?_
          refine gt_br (pc' := 37) (st' := []) (ykc_293 (e := (4, .goto (-50), 37)) rfl) rfl ?_
          exact ih (y + 1) _ _ _ (by omega) (ysuc hY (by omega)) (by rw [h_f1]; exact (by rw [show 10 * x + (y + 1) = 10 * x + y + 1 by omega, yrC_s (b := true) (by omega) (by rw [← hX, ← hY]; unfold yrW; rw [hA, hB]; rfl)]; show f.toInt + 1 = ((yrC v (10 * x + y) + 1 : Nat) : Int); omega)) ⟨_, uPb.1, fun q => by omega⟩ hPb (xent1_E hE uPb rfl rfl rfl (xent1_E hE uPa rfl rfl rfl g9))
        · refine gt_zne_t (ykc_293 (e := (4, .ifCond .ne 16, 81)) rfl) hz ?_
          obtain ⟨f1, e_f1, h_f1⟩ : ∃ zq : Int32, f + Int32.ofInt 1 = zq ∧ zq.toInt = f.toInt + 1 := ⟨_, rfl, by rw [ti_add (by rw [yn1]; omega) (by rw [yn1]; omega), yn1]⟩
          refine gt_store (L' := [some (.ref 170), some (.int v), some (.int f1), some (.int X), some (.int Y)]) (st' := []) (n := 3) (ykc_293 (e := (3, .iinc 2 1, 0)) rfl) (by rw [← e_f1]; rfl) rfl ?_
          refine gt_store (L' := [some (.ref 170), some (.int v), some (.int f1), some (.int X), some (.int (Y + Int32.ofInt 1))]) (st' := []) (n := 3) (ykc_293 (e := (3, .iinc 4 1, 0)) rfl) rfl rfl ?_
          refine gt_br (pc' := 37) (st' := []) (ykc_293 (e := (4, .goto (-50), 37)) rfl) rfl ?_
          exact ih (y + 1) _ _ _ (by omega) (ysuc hY (by omega)) (by rw [h_f1]; exact (by rw [show 10 * x + (y + 1) = 10 * x + y + 1 by omega, yrC_s (b := true) (by omega) (by rw [← hX, ← hY]; unfold yrW; rw [hA, hB]; rfl)]; show f.toInt + 1 = ((yrC v (10 * x + y) + 1 : Nat) : Int); omega)) ⟨_, ht, fun q => by omega⟩ hP g9
      | false =>
        refine gt_zeq_t (ykc_293 (e := (4, .ifCond .eq 23, 84)) rfl) (by decide) ?_
        refine gt_store (L' := [some (.ref 170), some (.int v), some (.int f), some (.int X), some (.int (Y + Int32.ofInt 1))]) (st' := []) (n := 3) (ykc_293 (e := (3, .iinc 4 1, 0)) rfl) rfl rfl ?_
        refine gt_br (pc' := 37) (st' := []) (ykc_293 (e := (4, .goto (-50), 37)) rfl) rfl ?_
        exact ih (y + 1) _ _ _ (by omega) (ysuc hY (by omega)) (by rw [show 10 * x + (y + 1) = 10 * x + y + 1 by omega, yrC_s (b := false) (by omega) (by rw [← hX, ← hY]; unfold yrW; rw [hA, hB]; rfl)]; show f.toInt = ((yrC v (10 * x + y) + 0 : Nat) : Int); omega) hT' hP g9
    | false =>
      refine gt_zeq_t (ykc_293 (e := (4, .ifCond .eq 33, 84)) rfl) (by decide) ?_
      refine gt_store (L' := [some (.ref 170), some (.int v), some (.int f), some (.int X), some (.int (Y + Int32.ofInt 1))]) (st' := []) (n := 3) (ykc_293 (e := (3, .iinc 4 1, 0)) rfl) rfl rfl ?_
      refine gt_br (pc' := 37) (st' := []) (ykc_293 (e := (4, .goto (-50), 37)) rfl) rfl ?_
      exact ih (y + 1) _ _ _ (by omega) (ysuc hY (by omega)) (by rw [show 10 * x + (y + 1) = 10 * x + y + 1 by omega, yrC_s (b := false) (by omega) (by rw [← hX, ← hY]; unfold yrW; rw [hA]; rfl)]; show f.toInt = ((yrC v (10 * x + y) + 0 : Nat) : Int); omega) hT' hP g9
set_option maxRecDepth 6000 in
theorem ymO (hE : xHE xX xgA_G96 xgF_G96 E) (kk : ∀ (f : Int32) (ph : pm_H), f = Int32.ofNat (yrC v 100) → xH xX kK m 0 ph → E ph → Q (some (.int f)) ph) : ∀ (r x : Nat) (f X : Int32) (y0 : Option Value) (ph : pm_H), x + r = 10 → X = Int32.ofNat x → f.toInt = (yrC v (10 * x) : Int) → (∃ T : Int32, xget ph 170 1 = some (.int T) ∧ (f.toInt = 0 → T.toInt = 0)) → xH xX kK m 0 ph → E ph → xGT kK (D + 1 + 1) 293 Q (28, [some (.ref 170), some (.int v), some (.int f), some (.int X), y0], [], ph, 0, 0) := by
  intro r
  induction r with
  | zero =>
    intro x f X y0 ph hx hX hf hT hP g9
    obtain rfl : x = 10 := by omega
    have hX2 : X.toInt = 10 := by rw [hX]; decide
    refine gt_load (v := .int X) (n := 1) (ykc_293 (e := (2, .iload_n kF3, 0)) rfl) rfl rfl ?_
    refine gt_push (v := .int ((Int8.ofInt 9).toInt32)) (n := 2) (ykc_293 (e := (1, .bipush 9, 0)) rfl) rfl rfl ?_
    refine gt_igt_t (ykc_293 (e := (4, .if_icmp .gt 65, 96)) rfl) (by rw [yb9]; omega) ?_
    refine gt_load (v := .int f) (n := 1) (ykc_293 (e := (2, .iload_n kF2, 0)) rfl) rfl rfl ?_
    refine gt_ret (ykc_293 (e := (7, .ireturn, 0)) rfl) rfl ?_
    have hl := yrC_le v 100
    exact kk _ _ (Int32.toInt_inj.mp (by rw [hf, ynat (by omega)])) hP g9
  | succ r ih =>
    intro x f X y0 ph hx hX hf hT hP g9
    have hX2 : X.toInt = (x : Int) := by rw [hX]; exact ynat (by omega)
    refine gt_load (v := .int X) (n := 1) (ykc_293 (e := (2, .iload_n kF3, 0)) rfl) rfl rfl ?_
    refine gt_push (v := .int ((Int8.ofInt 9).toInt32)) (n := 2) (ykc_293 (e := (1, .bipush 9, 0)) rfl) rfl rfl ?_
    refine gt_igt_f (ykc_293 (e := (4, .if_icmp .gt 65, 96)) rfl) (by rw [yb9]; omega) rfl ?_
    refine gt_alu (st' := [.int (Int32.ofInt 0)]) (ykc_293 (e := (0, .iconst 0, 0)) rfl) rfl rfl ?_
    refine gt_store (L' := [some (.ref 170), some (.int v), some (.int f), some (.int X), some (.int (Int32.ofInt 0))]) (st' := []) (n := 2) (ykc_293 (e := (3, .istore 4, 0)) rfl) rfl rfl ?_
    refine ymI hE (by omega) hX (fun f' Y' ph' hf' hT' hP' g9' => ?_) 10 0 _ _ _ rfl (by decide) hf hT hP g9
    refine gt_store (L' := [some (.ref 170), some (.int v), some (.int (f')), some (.int (X + Int32.ofInt 1)), some (.int (Y'))]) (st' := []) (n := 3) (ykc_293 (e := (3, .iinc 3 1, 0)) rfl) rfl rfl ?_
    refine gt_br (pc' := 28) (st' := []) (ykc_293 (e := (4, .goto (-65), 28)) rfl) rfl ?_
    exact ih (x + 1) _ _ _ _ (by omega) (ysuc hX (by omega)) hf' hT' hP' g9'
set_option maxRecDepth 6000 in
theorem yrestsM (hE : xHE xX xgA_G96 xgF_G96 E) (hP : xH xX kK m 0 ph) (g9 : E ph) : ∃ r ph', pm_Rd kK false (D + 1 + 1 + 1) 293 [.ref 170, .int v] ph (r, ph', 0, 0) ∧ (r = some (.int (yrR v)) ∧ xH xX kK m 0 ph' ∧ E ph') := by
  refine xRd_mk (nl := 5) rfl rfl ?_
  show xGT kK (D + 1 + 1) 293 _ (0, [some (.ref 170), some (.int v), none, none, none], [], ph, 0, 0)
  refine gt_load (v := .ref 170) (n := 1) (ykc_293 (e := (2, .aload_n kF0, 0)) rfl) rfl rfl ?_
  refine gt_alu (st' := [.int (Int32.ofInt 0), .ref 170]) (ykc_293 (e := (0, .iconst 0, 0)) rfl) rfl rfl ?_
  refine gt_pf (y := Int32.ofInt 0) (ykc_293 (e := (5, .putfield 3, 0)) rfl) rfl hP rfl rfl (by decide) (by decide) rfl (fun ph1 hP1 u1 => ?_)
  refine gt_load (v := .int v) (n := 1) (ykc_293 (e := (2, .iload_n kF1, 0)) rfl) rfl rfl ?_
  refine gt_alu (st' := [.long v.toInt64]) (ykc_293 (e := (0, .i2l, 0)) rfl) rfl rfl ?_
  refine gt_alu (st' := [.long (Int64.ofNat kG0), .long v.toInt64]) (ykc_293 (e := (0, .lconst kG0, 0)) rfl) rfl rfl ?_
  refine gt_push (v := .long (20 : Int64)) (n := 3) (ykc_293 (e := (1, .ldc2_w 466, 0)) rfl) rfl rfl ?_
  refine gt_cs (n := 3) (as := [.long v.toInt64, .long (Int64.ofNat kG0), .long (20 : Int64)]) (r := []) (ykc_293 (e := (6, .invokestatic 126, 0)) rfl) rfl rfl rfl rfl (xin_run (D := D + 1)) rfl (fun vv ph2 hv => ?_)
  obtain ⟨z, e9, e8, z_s⟩ := hv; subst e9; have e7 := e8.symm; subst e7; rw [tl_i2l, show (Int64.ofNat ↑kG0).toInt = 0 from by decide, show (20 : Int64).toInt = 20 from rfl] at z_s
  change xGT kK (D + 1 + 1) 293 _ (14, [some (.ref 170), some (.int v), none, none, none], [.int z], ph1, 0, 0)
  have g1 := xu1_E hE u1 rfl rfl rfl g9
  by_cases hz : z.toInt = 0
  · refine gt_zne_f (ykc_293 (e := (4, .ifCond .ne 5, 19)) rfl) hz rfl ?_
    refine gt_alu (st' := [.int (Int32.ofInt (-1))]) (ykc_293 (e := (0, .iconst (-1), 0)) rfl) rfl rfl ?_
    refine gt_ret (ykc_293 (e := (7, .ireturn, 0)) rfl) rfl ?_
    exact ⟨by unfold yrR; rw [if_neg (by omega)], hP1, g1⟩
  · refine gt_zne_t (ykc_293 (e := (4, .ifCond .ne 5, 19)) rfl) hz ?_
    refine gt_alu (st' := [.int (Int32.ofInt 0)]) (ykc_293 (e := (0, .iconst 0, 0)) rfl) rfl rfl ?_
    refine gt_store (L' := [some (.ref 170), some (.int v), some (.int (Int32.ofInt 0)), none, none]) (st' := []) (n := 1) (ykc_293 (e := (3, .istore_n kF2, 0)) rfl) rfl rfl ?_
    refine gt_load (v := .ref 170) (n := 1) (ykc_293 (e := (2, .aload_n kF0, 0)) rfl) rfl rfl ?_
    refine gt_alu (st' := [.int (Int32.ofInt 0), .ref 170]) (ykc_293 (e := (0, .iconst 0, 0)) rfl) rfl rfl ?_
    refine gt_pf (y := Int32.ofInt 0) (ykc_293 (e := (5, .putfield 15, 0)) rfl) rfl hP1 rfl rfl (by decide) (by decide) rfl (fun ph103 hP103 u103 => ?_)
    refine gt_alu (st' := [.int (Int32.ofInt 0)]) (ykc_293 (e := (0, .iconst 0, 0)) rfl) rfl rfl ?_
    refine gt_store (L' := [some (.ref 170), some (.int v), some (.int (Int32.ofInt 0)), some (.int (Int32.ofInt 0)), none]) (st' := []) (n := 1) (ykc_293 (e := (3, .istore_n kF3, 0)) rfl) rfl rfl ?_
    refine ymO hE (fun f ph1 h1 h2 h3 => ⟨by rw [h1]; unfold yrR; rw [if_pos (by omega)], h2, h3⟩) 10 0 _ _ _ _ rfl (by decide) yrC_00 ⟨_, u103.1, fun _ => by decide⟩ hP103 (xu1_E hE u103 rfl rfl rfl g1)
end YS
