/-! light, class and reference, by hand, printed by wip/y/h_zzu.py -/
def zdg (c : Int32) : Prop := 48 ≤ c.toInt ∧ c.toInt ≤ 57
set_option maxRecDepth 6000 in
theorem zb48 : ((Int8.ofInt 48).toInt32).toInt = 48 := by decide
set_option maxRecDepth 6000 in
theorem zb57 : ((Int8.ofInt 57).toInt32).toInt = 57 := by decide
set_option maxRecDepth 6000 in
theorem zb20 : ((Int8.ofInt 20).toInt32).toInt = 20 := by decide
set_option maxRecDepth 6000 in
theorem zb10 : ((Int8.ofInt 10).toInt32).toInt = 10 := by decide
set_option maxRecDepth 6000 in
theorem zm1 : (Int32.ofInt (-1)).toInt = -1 := by decide
set_option maxRecDepth 6000 in
theorem zminE {x y z : Int32} (e : (if y < x then y else x) = z) : (z = x ∧ x.toInt ≤ y.toInt) ∨ (z = y ∧ y.toInt < x.toInt) := by
  by_cases h : y < x
  · rw [if_pos h] at e
    exact Or.inr ⟨e.symm, x32lt.mp h⟩
  · rw [if_neg h] at e
    exact Or.inl ⟨e.symm, Int.not_lt.mp (fun q => h (x32lt.mpr q))⟩
set_option maxRecDepth 6000 in
theorem zn_a {n k : Nat} {r : Int32} {t : Nat → Int32} (hr : (k < n ∧ r = t k) ∨ (n ≤ k ∧ r.toInt = -1)) (h : r.toInt < 48 ∨ 57 < r.toInt) : k < n → ¬ zdg (t k) := fun hk q => by
  obtain ⟨q1, q2⟩ := q
  rcases hr with ⟨-, e⟩ | ⟨h1, -⟩
  · rw [← e] at q1 q2
    omega
  · omega
set_option maxRecDepth 6000 in
theorem zn_b {n k : Nat} {r : Int32} {t : Nat → Int32} (hr : (k < n ∧ r = t k) ∨ (n ≤ k ∧ r.toInt = -1)) (h1 : 48 ≤ r.toInt) (h2 : r.toInt ≤ 57) : k < n ∧ zdg (t k) ∧ r = t k := by
  rcases hr with ⟨hk, e⟩ | ⟨-, e⟩
  · exact ⟨hk, by rw [← e]; exact ⟨h1, h2⟩, e⟩
  · omega
/-- how far the digits go, 20 at most -/
def zK (n : Nat) (t : Nat → Int32) (K : Nat) : Prop := K ≤ 20 ∧ K ≤ n ∧ (∀ i, i < K → zdg (t i)) ∧ (K = n ∨ K = 20 ∨ ¬ zdg (t K))
set_option maxRecDepth 6000 in
theorem zK_ex (n : Nat) (t : Nat → Int32) : ∃ K, zK n t K := by
  have h : ∀ b, b ≤ 20 → b ≤ n → (∀ i, i < b → zdg (t i)) ∨ ∃ K, K < b ∧ (∀ i, i < K → zdg (t i)) ∧ ¬ zdg (t K) := by
    intro b
    induction b with
    | zero => intro _ _; exact Or.inl fun i hi => absurd hi (Nat.not_lt_zero _)
    | succ b ih =>
      intro h1 h2
      rcases ih (by omega) (by omega) with h | ⟨K, k1, k2, k3⟩
      · by_cases hd : zdg (t b)
        · exact Or.inl fun i hi => by
            by_cases e : i = b
            · subst e; exact hd
            · exact h i (by omega)
        · exact Or.inr ⟨b, by omega, h, hd⟩
      · exact Or.inr ⟨K, by omega, k2, k3⟩
  by_cases hn : n ≤ 20
  · rcases h n hn (Nat.le_refl _) with h | ⟨K, k1, k2, k3⟩
    · exact ⟨n, hn, Nat.le_refl _, h, Or.inl rfl⟩
    · exact ⟨K, by omega, by omega, k2, Or.inr (Or.inr k3)⟩
  · rcases h 20 (by omega) (by omega) with h | ⟨K, k1, k2, k3⟩
    · exact ⟨20, Nat.le_refl _, by omega, h, Or.inr (Or.inl rfl)⟩
    · exact ⟨K, by omega, by omega, k2, Or.inr (Or.inr k3)⟩
set_option maxRecDepth 6000 in
theorem yTX_at {p p' : pm_H} {a n : Nat} {t : Nat → Int32} (h : yTX p a n t) (e : ∀ c, xget p' a c = xget p a c) : yTX p' a n t := fun i hi => (e i).trans (h i hi)
section ZL
variable {m : Int} {w D : Nat} {Q : Option Value → pm_H → Prop} {T : Int32} {n : Nat} {t : Nat → Int32}

set_option maxRecDepth 6000 in
theorem zatC {ph : pm_H} (hP : xH xX kK m w ph) (hT : xget ph 1 1 = some (.int T)) (ht : T.toInt = (n : Int)) (hX : yTX ph 2 n t) {x : Int32} {k : Nat} (hx : x.toInt = (k : Int)) : ∃ v ph', pm_Rd kK false (D + 1) 97 [.ref 1, .int x] ph (v, ph', 0, 0) ∧ (ph = ph' ∧ ∃ r : Int32, v = some (.int r) ∧ ((k < n ∧ r = t k) ∨ (n ≤ k ∧ r.toInt = -1))) := by
  refine xRd_mk (nl := 2) rfl rfl ?_
  show xGT kK D 97 _ (0, [some (.ref 1), some (.int x)], [], ph, 0, 0)
  obtain ⟨l2, hl2, -, -⟩ := xA_at (A := 2) hP rfl rfl
  by_cases hk : k < n
  · refine gt_load (v := .int x) (n := 1) (ykc_97 (e := (2, .iload_n kF1, 0)) rfl) rfl rfl ?_
    refine gt_zlt_f (ykc_97 (e := (4, .ifCond .lt 20, 21)) rfl) (by omega) rfl ?_
    refine gt_load (v := .int x) (n := 1) (ykc_97 (e := (2, .iload_n kF1, 0)) rfl) rfl rfl ?_
    refine gt_load (v := .ref 1) (n := 1) (ykc_97 (e := (2, .aload_n kF0, 0)) rfl) rfl rfl ?_
    refine gt_ogk (A := 1) (v := .int T) (ykc_97 (e := (5, .getfield 13, 0)) rfl) rfl hP rfl rfl hT rfl ?_
    refine gt_ige_f (ykc_97 (e := (4, .if_icmp .ge 12, 21)) rfl) (by omega) rfl ?_
    refine gt_load (v := .ref 1) (n := 1) (ykc_97 (e := (2, .aload_n kF0, 0)) rfl) rfl rfl ?_
    refine gt_ogr (A := 1) (B := 2) (ykc_97 (e := (5, .getfield 9, 0)) rfl) rfl hP rfl rfl rfl rfl rfl ?_
    refine gt_load (v := .int x) (n := 1) (ykc_97 (e := (2, .iload_n kF1, 0)) rfl) rfl rfl ?_
    refine gt_ialk (y := t k) (ykc_97 (e := (5, .iaload, 0)) rfl) (hX k hk) ⟨l2, hl2⟩ hx rfl ?_
    refine gt_br (pc' := 22) (st' := [.int (t k)]) (ykc_97 (e := (4, .goto 4, 22)) rfl) rfl ?_
    refine gt_ret (ykc_97 (e := (7, .ireturn, 0)) rfl) rfl ?_
    exact ⟨rfl, _, rfl, Or.inl ⟨hk, rfl⟩⟩
  · refine gt_load (v := .int x) (n := 1) (ykc_97 (e := (2, .iload_n kF1, 0)) rfl) rfl rfl ?_
    refine gt_zlt_f (ykc_97 (e := (4, .ifCond .lt 20, 21)) rfl) (by omega) rfl ?_
    refine gt_load (v := .int x) (n := 1) (ykc_97 (e := (2, .iload_n kF1, 0)) rfl) rfl rfl ?_
    refine gt_load (v := .ref 1) (n := 1) (ykc_97 (e := (2, .aload_n kF0, 0)) rfl) rfl rfl ?_
    refine gt_ogk (A := 1) (v := .int T) (ykc_97 (e := (5, .getfield 13, 0)) rfl) rfl hP rfl rfl hT rfl ?_
    refine gt_ige_t (ykc_97 (e := (4, .if_icmp .ge 12, 21)) rfl) (by omega) ?_
    refine gt_alu (st' := [.int (Int32.ofInt (-1))]) (ykc_97 (e := (0, .iconst (-1), 0)) rfl) rfl rfl ?_
    refine gt_ret (ykc_97 (e := (7, .ireturn, 0)) rfl) rfl ?_
    exact ⟨rfl, _, rfl, Or.inr ⟨by omega, by decide⟩⟩
set_option maxRecDepth 6000 in
theorem zdgC {ph : pm_H} (hP : xH xX kK m w ph) (hT : xget ph 1 1 = some (.int T)) (ht : T.toInt = (n : Int)) (hX : yTX ph 2 n t) {x : Int32} {k : Nat} (hx : x.toInt = (k : Int)) : ∃ v ph', pm_Rd kK false (D + 1 + 1) 98 [.ref 1, .int x] ph (v, ph', 0, 0) ∧ (ph = ph' ∧ ∃ d : Int32, v = some (.int d) ∧ ((k < n ∧ zdg (t k) ∧ d.toInt = (t k).toInt - 48) ∨ ((k < n → ¬ zdg (t k)) ∧ d.toInt = -1))) := by
  refine xRd_mk (nl := 3) rfl rfl ?_
  show xGT kK (D + 1) 98 _ (0, [some (.ref 1), some (.int x), none], [], ph, 0, 0)
  refine gt_load (v := .ref 1) (n := 1) (ykc_98 (e := (2, .aload_n kF0, 0)) rfl) rfl rfl ?_
  refine gt_load (v := .int x) (n := 1) (ykc_98 (e := (2, .iload_n kF1, 0)) rfl) rfl rfl ?_
  refine gt_ocv (A := 1) (n := 1) (as := [.ref 1, .int x]) (r := []) (ykc_98 (e := (6, .invokevirtual 17, 0)) rfl) rfl hP rfl rfl rfl rfl rfl (zatC (D := D) hP hT ht hX hx) rfl (fun vv ph1 hv => ?_)
  obtain ⟨e8, r, e9, hr⟩ := hv; subst e9; subst e8
  change xGT kK (D + 1) 98 _ (5, [some (.ref 1), some (.int x), none], [.int r], ph, 0, 0)
  refine gt_store (L' := [some (.ref 1), some (.int x), some (.int r)]) (st' := []) (n := 1) (ykc_98 (e := (3, .istore_n kF2, 0)) rfl) rfl rfl ?_
  refine gt_load (v := .int r) (n := 1) (ykc_98 (e := (2, .iload_n kF2, 0)) rfl) rfl rfl ?_
  refine gt_push (v := .int ((Int8.ofInt 48).toInt32)) (n := 2) (ykc_98 (e := (1, .bipush 48, 0)) rfl) rfl rfl ?_
  by_cases c1 : r.toInt < 48
  · refine gt_ilt_t (ykc_98 (e := (4, .if_icmp .lt 16, 25)) rfl) (by rw [zb48]; omega) ?_
    refine gt_alu (st' := [.int (Int32.ofInt (-1))]) (ykc_98 (e := (0, .iconst (-1), 0)) rfl) rfl rfl ?_
    refine gt_ret (ykc_98 (e := (7, .ireturn, 0)) rfl) rfl ?_
    exact ⟨rfl, _, rfl, Or.inr ⟨zn_a hr (Or.inl c1), by decide⟩⟩
  · refine gt_ilt_f (ykc_98 (e := (4, .if_icmp .lt 16, 25)) rfl) (by rw [zb48]; omega) rfl ?_
    refine gt_load (v := .int r) (n := 1) (ykc_98 (e := (2, .iload_n kF2, 0)) rfl) rfl rfl ?_
    refine gt_push (v := .int ((Int8.ofInt 57).toInt32)) (n := 2) (ykc_98 (e := (1, .bipush 57, 0)) rfl) rfl rfl ?_
    by_cases c2 : 57 < r.toInt
    · refine gt_igt_t (ykc_98 (e := (4, .if_icmp .gt 10, 25)) rfl) (by rw [zb57]; omega) ?_
      refine gt_alu (st' := [.int (Int32.ofInt (-1))]) (ykc_98 (e := (0, .iconst (-1), 0)) rfl) rfl rfl ?_
      refine gt_ret (ykc_98 (e := (7, .ireturn, 0)) rfl) rfl ?_
      exact ⟨rfl, _, rfl, Or.inr ⟨zn_a hr (Or.inr c2), by decide⟩⟩
    · refine gt_igt_f (ykc_98 (e := (4, .if_icmp .gt 10, 25)) rfl) (by rw [zb57]; omega) rfl ?_
      refine gt_load (v := .int r) (n := 1) (ykc_98 (e := (2, .iload_n kF2, 0)) rfl) rfl rfl ?_
      refine gt_push (v := .int ((Int8.ofInt 48).toInt32)) (n := 2) (ykc_98 (e := (1, .bipush 48, 0)) rfl) rfl rfl ?_
      obtain ⟨d, e_d, h_d⟩ : ∃ zq : Int32, r - ((Int8.ofInt 48).toInt32) = zq ∧ zq.toInt = r.toInt - 48 := ⟨_, rfl, by rw [ti_sub (by rw [zb48]; omega) (by rw [zb48]; omega), zb48]⟩
      refine gt_alu (st' := [.int d]) (ykc_98 (e := (0, .isub, 0)) rfl) (by rw [← e_d]; exact rfl) rfl ?_
      refine gt_br (pc' := 26) (st' := [.int d]) (ykc_98 (e := (4, .goto 4, 26)) rfl) rfl ?_
      refine gt_ret (ykc_98 (e := (7, .ireturn, 0)) rfl) rfl ?_
      obtain ⟨q1, q2, q3⟩ := zn_b hr (by omega) (by omega)
      exact ⟨rfl, _, rfl, Or.inl ⟨q1, q2, by rw [← q3]; exact h_d⟩⟩
set_option maxRecDepth 6000 in
theorem zrl1 {ph : pm_H} (hP : xH xX kK m w ph) (hT : xget ph 1 1 = some (.int T)) (ht : T.toInt = (n : Int)) (hX : yTX ph 2 n t) {K : Nat} (hK : zK n t K) (kR : K < n → ∀ r : Int32, r.toInt = (K : Int) → Q (some (.int r)) ph) (kE : K = n → ∀ x : Option Value, xGT kK (D + 1 + 1) 75 Q (40, [some (.ref 10), some (.ref 1), some (.int T), x], [], ph, 0, 0)) : ∀ (r i : Nat) (x : Int32), i + r = K → x.toInt = (i : Int) → xGT kK (D + 1 + 1) 75 Q (13, [some (.ref 10), some (.ref 1), some (.int T), some (.int x)], [], ph, 0, 0) := by
  obtain ⟨h20, hKn, hdg, hend⟩ := hK
  intro r
  induction r with
  | zero =>
    intro i x hi hx
    obtain rfl : i = K := by omega
    by_cases hn : i = n
    · refine gt_load (v := .int x) (n := 1) (ykc_75 (e := (2, .iload_n kF3, 0)) rfl) rfl rfl ?_
      refine gt_load (v := .int T) (n := 1) (ykc_75 (e := (2, .iload_n kF2, 0)) rfl) rfl rfl ?_
      refine gt_ige_t (ykc_75 (e := (4, .if_icmp .ge 25, 40)) rfl) (by omega) ?_
      exact kE hn _
    · refine gt_load (v := .int x) (n := 1) (ykc_75 (e := (2, .iload_n kF3, 0)) rfl) rfl rfl ?_
      refine gt_load (v := .int T) (n := 1) (ykc_75 (e := (2, .iload_n kF2, 0)) rfl) rfl rfl ?_
      refine gt_ige_f (ykc_75 (e := (4, .if_icmp .ge 25, 40)) rfl) (by omega) rfl ?_
      refine gt_load (v := .int x) (n := 1) (ykc_75 (e := (2, .iload_n kF3, 0)) rfl) rfl rfl ?_
      refine gt_push (v := .int ((Int8.ofInt 20).toInt32)) (n := 2) (ykc_75 (e := (1, .bipush 20, 0)) rfl) rfl rfl ?_
      by_cases h2 : i = 20
      · refine gt_ieq_t (ykc_75 (e := (4, .if_icmp .eq 11, 32)) rfl) (by rw [zb20]; omega) ?_
        refine gt_load (v := .int x) (n := 1) (ykc_75 (e := (2, .iload_n kF3, 0)) rfl) rfl rfl ?_
        refine gt_ret (ykc_75 (e := (7, .ireturn, 0)) rfl) rfl ?_
        exact kR (by omega) _ hx
      · refine gt_ieq_f (ykc_75 (e := (4, .if_icmp .eq 11, 32)) rfl) (by rw [zb20]; omega) rfl ?_
        refine gt_load (v := .ref 1) (n := 1) (ykc_75 (e := (2, .aload_n kF1, 0)) rfl) rfl rfl ?_
        refine gt_load (v := .int x) (n := 1) (ykc_75 (e := (2, .iload_n kF3, 0)) rfl) rfl rfl ?_
        refine gt_ocv (A := 1) (n := 1) (as := [.ref 1, .int x]) (r := []) (ykc_75 (e := (6, .invokevirtual 49, 0)) rfl) rfl hP rfl rfl rfl rfl rfl (zdgC (D := D) hP hT ht hX hx) rfl (fun vv ph101 hv => ?_)
        obtain ⟨e8, d, e9, hd⟩ := hv; subst e9; subst e8
        change xGT kK (D + 1 + 1) 75 Q (29, [some (.ref 10), some (.ref 1), some (.int T), some (.int x)], [.int d], ph, 0, 0)
        have hneg : d.toInt = -1 := by
          rcases hd with ⟨-, q, -⟩ | ⟨-, q⟩
          · rcases hend with e | e | e
            · exact absurd e hn
            · exact absurd e h2
            · exact absurd q e
          · exact q
        refine gt_zge_f (ykc_75 (e := (4, .ifCond .ge 5, 34)) rfl) (by omega) rfl ?_
        refine gt_load (v := .int x) (n := 1) (ykc_75 (e := (2, .iload_n kF3, 0)) rfl) rfl rfl ?_
        refine gt_ret (ykc_75 (e := (7, .ireturn, 0)) rfl) rfl ?_
        exact kR (by omega) _ hx
  | succ r ih =>
    intro i x hi hx
    refine gt_load (v := .int x) (n := 1) (ykc_75 (e := (2, .iload_n kF3, 0)) rfl) rfl rfl ?_
    refine gt_load (v := .int T) (n := 1) (ykc_75 (e := (2, .iload_n kF2, 0)) rfl) rfl rfl ?_
    refine gt_ige_f (ykc_75 (e := (4, .if_icmp .ge 25, 40)) rfl) (by omega) rfl ?_
    refine gt_load (v := .int x) (n := 1) (ykc_75 (e := (2, .iload_n kF3, 0)) rfl) rfl rfl ?_
    refine gt_push (v := .int ((Int8.ofInt 20).toInt32)) (n := 2) (ykc_75 (e := (1, .bipush 20, 0)) rfl) rfl rfl ?_
    refine gt_ieq_f (ykc_75 (e := (4, .if_icmp .eq 11, 32)) rfl) (by rw [zb20]; omega) rfl ?_
    refine gt_load (v := .ref 1) (n := 1) (ykc_75 (e := (2, .aload_n kF1, 0)) rfl) rfl rfl ?_
    refine gt_load (v := .int x) (n := 1) (ykc_75 (e := (2, .iload_n kF3, 0)) rfl) rfl rfl ?_
    refine gt_ocv (A := 1) (n := 1) (as := [.ref 1, .int x]) (r := []) (ykc_75 (e := (6, .invokevirtual 49, 0)) rfl) rfl hP rfl rfl rfl rfl rfl (zdgC (D := D) hP hT ht hX hx) rfl (fun vv ph1 hv => ?_)
    obtain ⟨e8, d, e9, hd⟩ := hv; subst e9; subst e8
    change xGT kK (D + 1 + 1) 75 Q (29, [some (.ref 10), some (.ref 1), some (.int T), some (.int x)], [.int d], ph, 0, 0)
    have hpos : 0 ≤ d.toInt := by
      have q := hdg i (by omega)
      rcases hd with ⟨-, -, e⟩ | ⟨e, -⟩
      · obtain ⟨q1, q2⟩ := q
        omega
      · exact absurd q (e (by omega))
    refine gt_zge_t (ykc_75 (e := (4, .ifCond .ge 5, 34)) rfl) (by omega) ?_
    obtain ⟨x1, e_x1, h_x1⟩ : ∃ zq : Int32, x + Int32.ofInt 1 = zq ∧ zq.toInt = x.toInt + 1 := ⟨_, rfl, by rw [ti_add (by rw [yi1]; omega) (by rw [yi1]; omega), yi1]⟩
    refine gt_store (L' := [some (.ref 10), some (.ref 1), some (.int T), some (.int x1)]) (st' := []) (n := 3) (ykc_75 (e := (3, .iinc 3 1, 0)) rfl) (by rw [← e_x1]; rfl) rfl ?_
    refine gt_br (pc' := 13) (st' := []) (ykc_75 (e := (4, .goto (-24), 13)) rfl) rfl ?_
    exact ih (i + 1) _ (by omega) (by omega)
set_option maxRecDepth 6000 in
theorem zrl2 (ht : T.toInt = (n : Int)) (hn20 : n ≤ 20) (kk : ∀ (ph : pm_H) (x : Option Value), xH xX kK m w ph → xGT kK (D + 1 + 1) 75 Q (70, [some (.ref 10), some (.ref 1), some (.int T), x], [], ph, 0, 0)) : ∀ (r i : Nat) (x : Int32) (ph : pm_H), i + r = n → x.toInt = (i : Int) → xH xX kK m w ph → xget ph 1 1 = some (.int T) → yTX ph 2 n t → xGT kK (D + 1 + 1) 75 Q (42, [some (.ref 10), some (.ref 1), some (.int T), some (.int x)], [], ph, 0, 0) := by
  intro r
  induction r with
  | zero =>
    intro i x ph hi hx hP hT hX
    refine gt_load (v := .int x) (n := 1) (ykc_75 (e := (2, .iload_n kF3, 0)) rfl) rfl rfl ?_
    refine gt_load (v := .int T) (n := 1) (ykc_75 (e := (2, .iload_n kF2, 0)) rfl) rfl rfl ?_
    refine gt_ige_t (ykc_75 (e := (4, .if_icmp .ge 26, 70)) rfl) (by omega) ?_
    exact kk _ _ hP
  | succ r ih =>
    intro i x ph hi hx hP hT hX
    refine gt_load (v := .int x) (n := 1) (ykc_75 (e := (2, .iload_n kF3, 0)) rfl) rfl rfl ?_
    refine gt_load (v := .int T) (n := 1) (ykc_75 (e := (2, .iload_n kF2, 0)) rfl) rfl rfl ?_
    refine gt_ige_f (ykc_75 (e := (4, .if_icmp .ge 26, 70)) rfl) (by omega) rfl ?_
    refine gt_load (v := .int x) (n := 1) (ykc_75 (e := (2, .iload_n kF3, 0)) rfl) rfl rfl ?_
    refine gt_push (v := .int ((Int8.ofInt 20).toInt32)) (n := 2) (ykc_75 (e := (1, .bipush 20, 0)) rfl) rfl rfl ?_
    refine gt_ige_f (ykc_75 (e := (4, .if_icmp .ge 20, 70)) rfl) (by rw [zb20]; omega) rfl ?_
    refine gt_load (v := .ref 10) (n := 1) (ykc_75 (e := (2, .aload_n kF0, 0)) rfl) rfl rfl ?_
    refine gt_ogr (A := 10) (B := 21) (ykc_75 (e := (5, .getfield 25, 0)) rfl) rfl hP rfl rfl rfl rfl rfl ?_
    refine gt_load (v := .int x) (n := 1) (ykc_75 (e := (2, .iload_n kF3, 0)) rfl) rfl rfl ?_
    refine gt_load (v := .ref 1) (n := 1) (ykc_75 (e := (2, .aload_n kF1, 0)) rfl) rfl rfl ?_
    refine gt_load (v := .int x) (n := 1) (ykc_75 (e := (2, .iload_n kF3, 0)) rfl) rfl rfl ?_
    refine gt_ocv (A := 1) (n := 1) (as := [.ref 1, .int x]) (r := [.int x, .ref 21]) (ykc_75 (e := (6, .invokevirtual 49, 0)) rfl) rfl hP rfl rfl rfl rfl rfl (zdgC (D := D) hP hT ht hX hx) rfl (fun vv ph1 hv => ?_)
    obtain ⟨e8, d, e9, hd⟩ := hv; subst e9; subst e8
    change xGT kK (D + 1 + 1) 75 Q (63, [some (.ref 10), some (.ref 1), some (.int T), some (.int x)], [.int d, .int x, .ref 21], ph, 0, 0)
    refine gt_ias (A := 21) (y := d) (x := x) (ykc_75 (e := (5, .iastore, 0)) rfl) hP rfl rfl (by omega) (by omega) xany rfl (fun ph2 hP2 u2 => ?_)
    have f2_1_1 : xget ph2 1 1 = some (.int T) := (u2.2.1 1 1 (fun q => absurd q.1 (by decide))).trans hT
    obtain ⟨x1, e_x1, h_x1⟩ : ∃ zq : Int32, x + Int32.ofInt 1 = zq ∧ zq.toInt = x.toInt + 1 := ⟨_, rfl, by rw [ti_add (by rw [yi1]; omega) (by rw [yi1]; omega), yi1]⟩
    refine gt_store (L' := [some (.ref 10), some (.ref 1), some (.int T), some (.int x1)]) (st' := []) (n := 3) (ykc_75 (e := (3, .iinc 3 1, 0)) rfl) (by rw [← e_x1]; rfl) rfl ?_
    refine gt_br (pc' := 42) (st' := []) (ykc_75 (e := (4, .goto (-25), 42)) rfl) rfl ?_
    exact ih (i + 1) _ _ (by omega) (by omega) hP2 ((u2.2.1 1 1 (fun q => absurd q.1 (by decide))).trans hT) (yTX_at hX (fun c => u2.2.1 2 c (fun q => absurd q.1 (by decide))))
set_option maxRecDepth 6000 in
theorem zrlC {ph : pm_H} (hP : xH xX kK m w ph) (hT : xget ph 1 1 = some (.int T)) (ht : T.toInt = (n : Int)) (hX : yTX ph 2 n t) {K : Nat} (hK : zK n t K) : ∃ v ph', pm_Rd kK false (D + 1 + 1 + 1) 75 [.ref 10, .ref 1] ph (v, ph', 0, 0) ∧ (xH xX kK m w ph' ∧ ∃ r : Int32, v = some (.int r) ∧ ((0 < K ∧ K = n ∧ r.toInt = -1) ∨ ((K = 0 ∨ K < n) ∧ r.toInt = (K : Int)))) := by
  refine xRd_mk (nl := 4) rfl rfl ?_
  show xGT kK (D + 1 + 1) 75 _ (0, [some (.ref 10), some (.ref 1), none, none], [], ph, 0, 0)
  refine gt_load (v := .ref 1) (n := 1) (ykc_75 (e := (2, .aload_n kF1, 0)) rfl) rfl rfl ?_
  refine gt_ocv (A := 1) (n := 0) (as := [.ref 1]) (r := []) (ykc_75 (e := (6, .invokevirtual 43, 0)) rfl) rfl hP rfl rfl rfl rfl rfl (yszC (D := D + 1) hP hT) rfl (fun vv ph1 hv => ?_)
  obtain ⟨e9, e8⟩ := hv; subst e9; subst e8
  change xGT kK (D + 1 + 1) 75 _ (4, [some (.ref 10), some (.ref 1), none, none], [.int T], ph, 0, 0)
  refine gt_store (L' := [some (.ref 10), some (.ref 1), some (.int T), none]) (st' := []) (n := 1) (ykc_75 (e := (3, .istore_n kF2, 0)) rfl) rfl rfl ?_
  refine gt_load (v := .int T) (n := 1) (ykc_75 (e := (2, .iload_n kF2, 0)) rfl) rfl rfl ?_
  have hKn := hK.2.1
  by_cases hn : n = 0
  · refine gt_zne_f (ykc_75 (e := (4, .ifCond .ne 5, 11)) rfl) (by omega) rfl ?_
    refine gt_alu (st' := [.int (Int32.ofInt 0)]) (ykc_75 (e := (0, .iconst 0, 0)) rfl) rfl rfl ?_
    refine gt_ret (ykc_75 (e := (7, .ireturn, 0)) rfl) rfl ?_
    exact ⟨hP, _, rfl, Or.inr ⟨Or.inl (by omega), by rw [yi0]; omega⟩⟩
  · refine gt_zne_t (ykc_75 (e := (4, .ifCond .ne 5, 11)) rfl) (by omega) ?_
    refine gt_alu (st' := [.int (Int32.ofInt 0)]) (ykc_75 (e := (0, .iconst 0, 0)) rfl) rfl rfl ?_
    refine gt_store (L' := [some (.ref 10), some (.ref 1), some (.int T), some (.int (Int32.ofInt 0))]) (st' := []) (n := 1) (ykc_75 (e := (3, .istore_n kF3, 0)) rfl) rfl rfl ?_
    refine zrl1 hP hT ht hX hK (fun h r hr => ⟨hP, r, rfl, Or.inr ⟨Or.inr h, hr⟩⟩) (fun h x => ?_) K 0 _ (by omega) yi0
    have h20 : n ≤ 20 := by have := hK.1; omega
    refine gt_alu (st' := [.int (Int32.ofInt 0)]) (ykc_75 (e := (0, .iconst 0, 0)) rfl) rfl rfl ?_
    refine gt_store (L' := [some (.ref 10), some (.ref 1), some (.int T), some (.int (Int32.ofInt 0))]) (st' := []) (n := 1) (ykc_75 (e := (3, .istore_n kF3, 0)) rfl) rfl rfl ?_
    refine zrl2 ht h20 (fun ph' x hP' => ?_) n 0 _ _ (by omega) yi0 hP hT hX
    refine gt_load (v := .ref 10) (n := 1) (ykc_75 (e := (2, .aload_n kF0, 0)) rfl) rfl rfl ?_
    refine gt_load (v := .int T) (n := 1) (ykc_75 (e := (2, .iload_n kF2, 0)) rfl) rfl rfl ?_
    refine gt_opv (A := 10) (y := .int T) (ty := .int) (ykc_75 (e := (5, .putfield 29, 0)) rfl) rfl hP' rfl rfl rfl rfl rfl ⟨_, rfl, (x32_lo _), (x32_hi _)⟩ rfl (fun ph41 hP41 u41 => ?_)
    refine gt_alu (st' := [.int (Int32.ofInt (-1))]) (ykc_75 (e := (0, .iconst (-1), 0)) rfl) rfl rfl ?_
    refine gt_ret (ykc_75 (e := (7, .ireturn, 0)) rfl) rfl ?_
    exact ⟨hP41, _, rfl, Or.inl ⟨by omega, h, zm1⟩⟩
set_option maxRecDepth 6000 in
theorem zclrC {ph : pm_H} (hP : xH xX kK m w ph) : ∃ v ph', pm_Rd kK false (D + 1) 100 [.ref 1] ph (v, ph', 0, 0) ∧ (v = none ∧ xH xX kK m w ph' ∧ xu1 ph ph' 1 1 (.int (Int32.ofInt 0))) := by
  refine xRd_mk (nl := 1) rfl rfl ?_
  show xGT kK D 100 _ (0, [some (.ref 1)], [], ph, 0, 0)
  refine gt_load (v := .ref 1) (n := 1) (ykc_100 (e := (2, .aload_n kF0, 0)) rfl) rfl rfl ?_
  refine gt_alu (st' := [.int (Int32.ofInt 0), .ref 1]) (ykc_100 (e := (0, .iconst 0, 0)) rfl) rfl rfl ?_
  refine gt_opv (A := 1) (y := .int (Int32.ofInt 0)) (ty := .int) (ykc_100 (e := (5, .putfield 13, 0)) rfl) rfl hP rfl rfl rfl rfl rfl ⟨_, rfl, (by decide), (by decide)⟩ rfl (fun ph1 hP1 u1 => ?_)
  refine gt_ret (ykc_100 (e := (7, .return_, 0)) rfl) rfl ?_
  exact ⟨rfl, hP1, u1⟩
/-- what light answers -/
def zlv (n K : Nat) : Int := if 0 < K ∧ K = n then (n : Int) else -1 - (K : Int)
set_option maxRecDepth 6000 in
theorem zlightC {ph : pm_H} (hP : xH xX kK m w ph) (hT : xget ph 1 1 = some (.int T)) (ht : T.toInt = (n : Int)) (hX : yTX ph 2 n t) {K : Nat} (hK : zK n t K) : ∃ v ph', pm_Rd kK false (D + 1 + 1 + 1 + 1) 127 [.ref 0] ph (v, ph', 0, 0) ∧ (∃ r : Int32, v = some (.int r) ∧ r.toInt = zlv n K) := by
  refine xRd_mk (nl := 3) rfl rfl ?_
  show xGT kK (D + 1 + 1 + 1) 127 _ (0, [some (.ref 0), none, none], [], ph, 0, 0)
  have h20 := hK.1
  refine gt_load (v := .ref 0) (n := 1) (ykc_127 (e := (2, .aload_n kF0, 0)) rfl) rfl rfl ?_
  refine gt_ogr (A := 0) (B := 1) (ykc_127 (e := (5, .getfield 10, 0)) rfl) rfl hP rfl rfl rfl rfl rfl ?_
  refine gt_ocv (A := 1) (n := 0) (as := [.ref 1]) (r := []) (ykc_127 (e := (6, .invokevirtual 108, 0)) rfl) rfl hP rfl rfl rfl rfl rfl (yszC (D := D + 1 + 1) hP hT) rfl (fun vv ph1 hv => ?_)
  obtain ⟨e9, e8⟩ := hv; subst e9; subst e8
  change xGT kK (D + 1 + 1 + 1) 127 _ (7, [some (.ref 0), none, none], [.int T], ph, 0, 0)
  refine gt_store (L' := [some (.ref 0), some (.int T), none]) (st' := []) (n := 1) (ykc_127 (e := (3, .istore_n kF1, 0)) rfl) rfl rfl ?_
  refine gt_load (v := .ref 0) (n := 1) (ykc_127 (e := (2, .aload_n kF0, 0)) rfl) rfl rfl ?_
  refine gt_ogr (A := 0) (B := 10) (ykc_127 (e := (5, .getfield 35, 0)) rfl) rfl hP rfl rfl rfl rfl rfl ?_
  refine gt_load (v := .ref 0) (n := 1) (ykc_127 (e := (2, .aload_n kF0, 0)) rfl) rfl rfl ?_
  refine gt_ogr (A := 0) (B := 1) (ykc_127 (e := (5, .getfield 10, 0)) rfl) rfl hP rfl rfl rfl rfl rfl ?_
  refine gt_ocv (A := 10) (n := 1) (as := [.ref 10, .ref 1]) (r := []) (ykc_127 (e := (6, .invokevirtual 154, 0)) rfl) rfl hP rfl rfl rfl rfl rfl (zrlC (D := D) hP hT ht hX hK) rfl (fun vv ph2 hv => ?_)
  obtain ⟨hP1, r, e9, hr⟩ := hv; subst e9
  change xGT kK (D + 1 + 1 + 1) 127 _ (19, [some (.ref 0), some (.int T), none], [.int r], ph2, 0, 0)
  refine gt_store (L' := [some (.ref 0), some (.int T), some (.int r)]) (st' := []) (n := 1) (ykc_127 (e := (3, .istore_n kF2, 0)) rfl) rfl rfl ?_
  refine gt_load (v := .ref 0) (n := 1) (ykc_127 (e := (2, .aload_n kF0, 0)) rfl) rfl rfl ?_
  refine gt_ogr (A := 0) (B := 1) (ykc_127 (e := (5, .getfield 10, 0)) rfl) rfl hP1 rfl rfl rfl rfl rfl ?_
  refine gt_ocv (A := 1) (n := 0) (as := [.ref 1]) (r := []) (ykc_127 (e := (6, .invokevirtual 119, 0)) rfl) rfl hP1 rfl rfl rfl rfl rfl (zclrC (D := D + 1 + 1) hP1) rfl (fun vv ph3 hv => ?_)
  obtain ⟨e9, hP2, -⟩ := hv; subst e9
  change xGT kK (D + 1 + 1 + 1) 127 _ (27, [some (.ref 0), some (.int T), some (.int r)], [], ph3, 0, 0)
  refine gt_load (v := .int r) (n := 1) (ykc_127 (e := (2, .iload_n kF2, 0)) rfl) rfl rfl ?_
  rcases hr with ⟨q1, q2, q3⟩ | ⟨q1, q3⟩
  · refine gt_zlt_t (ykc_127 (e := (4, .ifCond .lt 9, 37)) rfl) (by omega) ?_
    refine gt_load (v := .int T) (n := 1) (ykc_127 (e := (2, .iload_n kF1, 0)) rfl) rfl rfl ?_
    refine gt_ret (ykc_127 (e := (7, .ireturn, 0)) rfl) rfl ?_
    exact ⟨_, rfl, by unfold zlv; rw [if_pos ⟨q1, q2⟩]; omega⟩
  · refine gt_zlt_f (ykc_127 (e := (4, .ifCond .lt 9, 37)) rfl) (by omega) rfl ?_
    refine gt_alu (st' := [.int (Int32.ofInt (-1))]) (ykc_127 (e := (0, .iconst (-1), 0)) rfl) rfl rfl ?_
    refine gt_load (v := .int r) (n := 1) (ykc_127 (e := (2, .iload_n kF2, 0)) rfl) rfl rfl ?_
    obtain ⟨q1, e_q1, h_q1⟩ : ∃ zq : Int32, (Int32.ofInt (-1)) - r = zq ∧ zq.toInt = -1 - r.toInt := ⟨_, rfl, by rw [ti_sub (by rw [zm1]; omega) (by rw [zm1]; omega), zm1]⟩
    refine gt_alu (st' := [.int q1]) (ykc_127 (e := (0, .isub, 0)) rfl) (by rw [← e_q1]; exact rfl) rfl ?_
    refine gt_br (pc' := 38) (st' := [.int q1]) (ykc_127 (e := (4, .goto 4, 38)) rfl) rfl ?_
    refine gt_ret (ykc_127 (e := (7, .ireturn, 0)) rfl) rfl ?_
    exact ⟨_, rfl, by unfold zlv; rw [if_neg (fun q => by omega)]; omega⟩
set_option maxRecDepth 6000 in
theorem zbegM {ph : pm_H} (hP : xH xX kK m w ph) (hT : xget ph 170 14 = some (.int T)) {y : Int32} (h0 : 0 ≤ T.toInt) (hy0 : 0 ≤ y.toInt) (hy : y.toInt ≤ 80) : ∃ v ph', pm_Rd kK false (D + 1) 195 [.ref 170, .int y] ph (v, ph', 0, 0) ∧ (v = some (.int T) ∧ xH xX kK m w ph' ∧ (∃ B : Int32, xget ph' 170 16 = some (.int B) ∧ ((B = T ∧ T.toInt ≤ y.toInt) ∨ (B = y ∧ y.toInt < T.toInt))) ∧ xget ph' 170 15 = some (.int (Int32.ofInt 0)) ∧ xget ph' 170 17 = some (.int (Int32.ofInt 0)) ∧ xget ph' 170 14 = some (.int (Int32.ofInt 0)) ∧ (∀ b c, b ≠ 170 → xget ph' b c = xget ph b c) ∧ (∀ c, c ≠ 14 → c ≠ 15 → c ≠ 16 → c ≠ 17 → xget ph' 170 c = xget ph 170 c) ∧ ∀ b, b ≠ 170 → pm_at ph' b = pm_at ph b) := by
  refine xRd_mk (nl := 3) rfl rfl ?_
  show xGT kK D 195 _ (0, [some (.ref 170), some (.int y), none], [], ph, 0, 0)
  refine gt_load (v := .ref 170) (n := 1) (ykc_195 (e := (2, .aload_n kF0, 0)) rfl) rfl rfl ?_
  refine gt_ogk (A := 170) (v := .int T) (ykc_195 (e := (5, .getfield 136, 0)) rfl) rfl hP rfl rfl hT rfl ?_
  refine gt_store (L' := [some (.ref 170), some (.int y), some (.int T)]) (st' := []) (n := 1) (ykc_195 (e := (3, .istore_n kF2, 0)) rfl) rfl rfl ?_
  refine gt_load (v := .ref 170) (n := 1) (ykc_195 (e := (2, .aload_n kF0, 0)) rfl) rfl rfl ?_
  refine gt_alu (st' := [.int (Int32.ofInt 0), .ref 170]) (ykc_195 (e := (0, .iconst 0, 0)) rfl) rfl rfl ?_
  refine gt_opv (A := 170) (y := .int (Int32.ofInt 0)) (ty := .int) (ykc_195 (e := (5, .putfield 136, 0)) rfl) rfl hP rfl rfl rfl rfl rfl ⟨_, rfl, (by decide), (by decide)⟩ rfl (fun ph1 hP1 u1 => ?_)
  refine gt_load (v := .ref 170) (n := 1) (ykc_195 (e := (2, .aload_n kF0, 0)) rfl) rfl rfl ?_
  refine gt_alu (st' := [.int (Int32.ofInt 0), .ref 170]) (ykc_195 (e := (0, .iconst 0, 0)) rfl) rfl rfl ?_
  refine gt_opv (A := 170) (y := .int (Int32.ofInt 0)) (ty := .int) (ykc_195 (e := (5, .putfield 139, 0)) rfl) rfl hP1 rfl rfl rfl rfl rfl ⟨_, rfl, (by decide), (by decide)⟩ rfl (fun ph2 hP2 u2 => ?_)
  have f2_170_14 : xget ph2 170 14 = some (.int (Int32.ofInt 0)) := (u2.2.1 170 14 (fun q => absurd q.2 (by decide))).trans u1.1
  refine gt_load (v := .ref 170) (n := 1) (ykc_195 (e := (2, .aload_n kF0, 0)) rfl) rfl rfl ?_
  refine gt_alu (st' := [.int (Int32.ofInt 0), .ref 170]) (ykc_195 (e := (0, .iconst 0, 0)) rfl) rfl rfl ?_
  refine gt_opv (A := 170) (y := .int (Int32.ofInt 0)) (ty := .int) (ykc_195 (e := (5, .putfield 142, 0)) rfl) rfl hP2 rfl rfl rfl rfl rfl ⟨_, rfl, (by decide), (by decide)⟩ rfl (fun ph3 hP3 u3 => ?_)
  have f3_170_14 : xget ph3 170 14 = some (.int (Int32.ofInt 0)) := (u3.2.1 170 14 (fun q => absurd q.2 (by decide))).trans f2_170_14
  have f3_170_15 : xget ph3 170 15 = some (.int (Int32.ofInt 0)) := (u3.2.1 170 15 (fun q => absurd q.2 (by decide))).trans u2.1
  refine gt_load (v := .ref 170) (n := 1) (ykc_195 (e := (2, .aload_n kF0, 0)) rfl) rfl rfl ?_
  refine gt_load (v := .int T) (n := 1) (ykc_195 (e := (2, .iload_n kF2, 0)) rfl) rfl rfl ?_
  refine gt_load (v := .int y) (n := 1) (ykc_195 (e := (2, .iload_n kF1, 0)) rfl) rfl rfl ?_
  obtain ⟨mn, e_mn⟩ : ∃ zq : Int32, (if y < T then y else T) = zq := ⟨_, rfl⟩
  refine gt_mem (n := 3) (st' := [.int mn, .ref 170]) (ph' := ph3) (ykc_195 (e := (5, .invokestatic 145, 0)) rfl) (by rw [← e_mn]; rfl) rfl ?_
  have hm := zminE e_mn
  have hm0 : 0 ≤ mn.toInt ∧ mn.toInt ≤ 80 := by rcases hm with ⟨e, q⟩ | ⟨e, q⟩ <;> subst e <;> omega
  refine gt_opv (A := 170) (y := .int mn) (ty := .int) (ykc_195 (e := (5, .putfield 151, 0)) rfl) rfl hP3 rfl rfl rfl rfl rfl ⟨_, rfl, (show (0 : Int) ≤ mn.toInt by omega), (show mn.toInt ≤ 80 by omega)⟩ rfl (fun ph4 hP4 u4 => ?_)
  have f4_170_14 : xget ph4 170 14 = some (.int (Int32.ofInt 0)) := (u4.2.1 170 14 (fun q => absurd q.2 (by decide))).trans f3_170_14
  have f4_170_15 : xget ph4 170 15 = some (.int (Int32.ofInt 0)) := (u4.2.1 170 15 (fun q => absurd q.2 (by decide))).trans f3_170_15
  have f4_170_17 : xget ph4 170 17 = some (.int (Int32.ofInt 0)) := (u4.2.1 170 17 (fun q => absurd q.2 (by decide))).trans u3.1
  refine gt_load (v := .int T) (n := 1) (ykc_195 (e := (2, .iload_n kF2, 0)) rfl) rfl rfl ?_
  refine gt_ret (ykc_195 (e := (7, .ireturn, 0)) rfl) rfl ?_
  refine ⟨rfl, hP4, ⟨mn, u4.1, hm⟩, f4_170_15, f4_170_17, f4_170_14, fun b c hb => ?_, fun c h1 h2 h3 h4 => ?_, fun b hb => ?_⟩
  · exact ((u4.2.1 b c (fun q => hb q.1)).trans ((u3.2.1 b c (fun q => hb q.1)).trans ((u2.2.1 b c (fun q => hb q.1)).trans (u1.2.1 b c (fun q => hb q.1)))))
  · exact ((u4.2.1 170 c (fun q => by omega)).trans ((u3.2.1 170 c (fun q => by omega)).trans ((u2.2.1 170 c (fun q => by omega)).trans (u1.2.1 170 c (fun q => by omega)))))
  · exact ((((u4.2.2 b hb).trans (u3.2.2 b hb)).trans (u2.2.2 b hb)).trans (u1.2.2 b hb))
set_option maxRecDepth 6000 in
theorem zisd {ph : pm_H} (hP : xH xX kK m w ph) {A B : Int32} {a b : Nat} (hA : xget ph 170 15 = some (.int A)) (ha : A.toInt = (a : Int)) (hB : xget ph 170 16 = some (.int B)) (hb : B.toInt = (b : Int)) (hbn : b ≤ n) (hX : yTX ph 176 n t) : ∃ v ph', pm_Rd kK false (D + 1 + 1) 197 [.ref 170] ph (v, ph', 0, 0) ∧ (ph = ph' ∧ ∃ z : Int32, v = some (.int z) ∧ ((z.toInt = 1 ∧ a < b ∧ zdg (t a)) ∨ (z.toInt = 0 ∧ (a < b → ¬ zdg (t a))))) := by
  refine xRd_mk (nl := 1) rfl rfl ?_
  show xGT kK (D + 1) 197 _ (0, [some (.ref 170)], [], ph, 0, 0)
  obtain ⟨l2, hl2, -, -⟩ := xA_at (A := 176) hP rfl rfl
  by_cases hk : a < b
  · refine gt_load (v := .ref 170) (n := 1) (ykc_197 (e := (2, .aload_n kF0, 0)) rfl) rfl rfl ?_
    refine gt_ogk (A := 170) (v := .int A) (ykc_197 (e := (5, .getfield 139, 0)) rfl) rfl hP rfl rfl hA rfl ?_
    refine gt_load (v := .ref 170) (n := 1) (ykc_197 (e := (2, .aload_n kF0, 0)) rfl) rfl rfl ?_
    refine gt_ogk (A := 170) (v := .int B) (ykc_197 (e := (5, .getfield 151, 0)) rfl) rfl hP rfl rfl hB rfl ?_
    refine gt_ige_f (ykc_197 (e := (4, .if_icmp .ge 29, 37)) rfl) (by omega) rfl ?_
    refine gt_load (v := .ref 170) (n := 1) (ykc_197 (e := (2, .aload_n kF0, 0)) rfl) rfl rfl ?_
    refine gt_ogr (A := 170) (B := 176) (ykc_197 (e := (5, .getfield 47, 0)) rfl) rfl hP rfl rfl rfl rfl rfl ?_
    refine gt_load (v := .ref 170) (n := 1) (ykc_197 (e := (2, .aload_n kF0, 0)) rfl) rfl rfl ?_
    refine gt_ogk (A := 170) (v := .int A) (ykc_197 (e := (5, .getfield 139, 0)) rfl) rfl hP rfl rfl hA rfl ?_
    refine gt_ialk (y := t a) (ykc_197 (e := (5, .iaload, 0)) rfl) (hX a (by omega)) ⟨l2, hl2⟩ ha rfl ?_
    refine gt_alu (st' := [.long ((t a).toInt64)]) (ykc_197 (e := (0, .i2l, 0)) rfl) rfl rfl ?_
    refine gt_push (v := .long (48 : Int64)) (n := 3) (ykc_197 (e := (1, .ldc2_w 158, 0)) rfl) rfl rfl ?_
    refine gt_push (v := .long (57 : Int64)) (n := 3) (ykc_197 (e := (1, .ldc2_w 160, 0)) rfl) rfl rfl ?_
    refine gt_cs (n := 3) (as := [.long ((t a).toInt64), .long (48 : Int64), .long (57 : Int64)]) (r := []) (ykc_197 (e := (6, .invokestatic 126, 0)) rfl) rfl rfl rfl rfl (xin_run (D := D)) rfl (fun vv ph101 hv => ?_)
    obtain ⟨z, e9, e8, z_s⟩ := hv; subst e9; have e7 := e8.symm; subst e7; rw [tl_i2l, show (48 : Int64).toInt = 48 from rfl, show (57 : Int64).toInt = 57 from rfl] at z_s
    change xGT kK (D + 1) 197 _ (30, [some (.ref 170)], [.int z], ph, 0, 0)
    rcases z_s with ⟨z1, z2, z3⟩ | ⟨z1, z2⟩
    · refine gt_zeq_f (ykc_197 (e := (4, .ifCond .eq 7, 37)) rfl) (by omega) rfl ?_
      refine gt_alu (st' := [.int (Int32.ofInt 1)]) (ykc_197 (e := (0, .iconst 1, 0)) rfl) rfl rfl ?_
      refine gt_br (pc' := 38) (st' := [.int (Int32.ofInt 1)]) (ykc_197 (e := (4, .goto 4, 38)) rfl) rfl ?_
      refine gt_ret (ykc_197 (e := (7, .ireturn, 0)) rfl) (xretz (by decide) (by decide)) ?_
      exact ⟨rfl, _, rfl, Or.inl ⟨by decide, hk, z2, z3⟩⟩
    · refine gt_zeq_t (ykc_197 (e := (4, .ifCond .eq 7, 37)) rfl) (by omega) ?_
      refine gt_alu (st' := [.int (Int32.ofInt 0)]) (ykc_197 (e := (0, .iconst 0, 0)) rfl) rfl rfl ?_
      refine gt_ret (ykc_197 (e := (7, .ireturn, 0)) rfl) (xretz (by decide) (by decide)) ?_
      exact ⟨rfl, _, rfl, Or.inr ⟨by decide, fun _ q => by obtain ⟨q1, q2⟩ := q; omega⟩⟩
  · refine gt_load (v := .ref 170) (n := 1) (ykc_197 (e := (2, .aload_n kF0, 0)) rfl) rfl rfl ?_
    refine gt_ogk (A := 170) (v := .int A) (ykc_197 (e := (5, .getfield 139, 0)) rfl) rfl hP rfl rfl hA rfl ?_
    refine gt_load (v := .ref 170) (n := 1) (ykc_197 (e := (2, .aload_n kF0, 0)) rfl) rfl rfl ?_
    refine gt_ogk (A := 170) (v := .int B) (ykc_197 (e := (5, .getfield 151, 0)) rfl) rfl hP rfl rfl hB rfl ?_
    refine gt_ige_t (ykc_197 (e := (4, .if_icmp .ge 29, 37)) rfl) (by omega) ?_
    refine gt_alu (st' := [.int (Int32.ofInt 0)]) (ykc_197 (e := (0, .iconst 0, 0)) rfl) rfl rfl ?_
    refine gt_ret (ykc_197 (e := (7, .ireturn, 0)) rfl) (xretz (by decide) (by decide)) ?_
    exact ⟨rfl, _, rfl, Or.inr ⟨by decide, fun h => absurd h hk⟩⟩
set_option maxRecDepth 6000 in
theorem znum {ph : pm_H} (hP : xH xX kK m w ph) {A B : Int32} {a b : Nat} (hA : xget ph 170 15 = some (.int A)) (ha : A.toInt = (a : Int)) (hB : xget ph 170 16 = some (.int B)) (hb : B.toInt = (b : Int)) (hbn : b ≤ n) (hX : yTX ph 176 n t) (hb80 : b ≤ 80) (hab : a < b) (hd : zdg (t a)) : ∃ v ph', pm_Rd kK false (D + 1 + 1 + 1) 199 [.ref 170, .int (Int32.ofInt 1)] ph (v, ph', 0, 0) ∧ (xH xX kK m w ph' ∧ ∃ nv A1 : Int32, v = some (.int nv) ∧ nv.toInt = (t a).toInt - 48 ∧ A1.toInt = ((a + 1 : Nat) : Int) ∧ xu1 ph ph' 170 15 (.int A1)) := by
  refine xRd_mk (nl := 4) rfl rfl ?_
  show xGT kK (D + 1 + 1) 199 _ (0, [some (.ref 170), some (.int (Int32.ofInt 1)), none, none], [], ph, 0, 0)
  obtain ⟨l2, hl2, -, -⟩ := xA_at (A := 176) hP rfl rfl
  have hk : a < n := by omega
  obtain ⟨d1, d2⟩ := hd
  refine gt_load (v := .ref 170) (n := 1) (ykc_199 (e := (2, .aload_n kF0, 0)) rfl) rfl rfl ?_
  refine gt_ocv (A := 170) (n := 0) (as := [.ref 170]) (r := []) (ykc_199 (e := (6, .invokevirtual 171, 0)) rfl) rfl hP rfl rfl rfl rfl rfl (zisd (D := D) hP hA ha hB hb hbn hX) rfl (fun vv ph1 hv => ?_)
  obtain ⟨e8, z, e9, zs⟩ := hv; subst e9; subst e8
  change xGT kK (D + 1 + 1) 199 _ (4, [some (.ref 170), some (.int (Int32.ofInt 1)), none, none], [.int z], ph, 0, 0)
  have z1 : z.toInt = 1 := by
    rcases zs with ⟨q, -⟩ | ⟨-, q⟩
    · exact q
    · exact absurd ⟨d1, d2⟩ (q hab)
  refine gt_zne_t (ykc_199 (e := (4, .ifCond .ne 5, 9)) rfl) (by omega) ?_
  refine gt_alu (st' := [.int (Int32.ofInt 0)]) (ykc_199 (e := (0, .iconst 0, 0)) rfl) rfl rfl ?_
  refine gt_store (L' := [some (.ref 170), some (.int (Int32.ofInt 1)), some (.int (Int32.ofInt 0)), none]) (st' := []) (n := 1) (ykc_199 (e := (3, .istore_n kF2, 0)) rfl) rfl rfl ?_
  refine gt_alu (st' := [.int (Int32.ofInt 0)]) (ykc_199 (e := (0, .iconst 0, 0)) rfl) rfl rfl ?_
  refine gt_store (L' := [some (.ref 170), some (.int (Int32.ofInt 1)), some (.int (Int32.ofInt 0)), some (.int (Int32.ofInt 0))]) (st' := []) (n := 1) (ykc_199 (e := (3, .istore_n kF3, 0)) rfl) rfl rfl ?_
  refine gt_load (v := .int (Int32.ofInt 0)) (n := 1) (ykc_199 (e := (2, .iload_n kF3, 0)) rfl) rfl rfl ?_
  refine gt_load (v := .int (Int32.ofInt 1)) (n := 1) (ykc_199 (e := (2, .iload_n kF1, 0)) rfl) rfl rfl ?_
  refine gt_ige_f (ykc_199 (e := (4, .if_icmp .ge 44, 59)) rfl) (by decide) rfl ?_
  refine gt_load (v := .ref 170) (n := 1) (ykc_199 (e := (2, .aload_n kF0, 0)) rfl) rfl rfl ?_
  refine gt_ocv (A := 170) (n := 0) (as := [.ref 170]) (r := []) (ykc_199 (e := (6, .invokevirtual 171, 0)) rfl) rfl hP rfl rfl rfl rfl rfl (zisd (D := D) hP hA ha hB hb hbn hX) rfl (fun vv ph2 hv => ?_)
  obtain ⟨e8, y, e9, ys⟩ := hv; subst e9; subst e8
  change xGT kK (D + 1 + 1) 199 _ (22, [some (.ref 170), some (.int (Int32.ofInt 1)), some (.int (Int32.ofInt 0)), some (.int (Int32.ofInt 0))], [.int y], ph, 0, 0)
  have y1 : y.toInt = 1 := by
    rcases ys with ⟨q, -⟩ | ⟨-, q⟩
    · exact q
    · exact absurd ⟨d1, d2⟩ (q hab)
  refine gt_zeq_f (ykc_199 (e := (4, .ifCond .eq 37, 59)) rfl) (by omega) rfl ?_
  refine gt_push (v := .int ((Int8.ofInt 10).toInt32)) (n := 2) (ykc_199 (e := (1, .bipush 10, 0)) rfl) rfl rfl ?_
  refine gt_load (v := .int (Int32.ofInt 0)) (n := 1) (ykc_199 (e := (2, .iload_n kF2, 0)) rfl) rfl rfl ?_
  refine gt_alu (st' := [.int (((Int8.ofInt 10).toInt32) * (Int32.ofInt 0))]) (ykc_199 (e := (0, .imul, 0)) rfl) rfl rfl ?_
  refine gt_load (v := .ref 170) (n := 1) (ykc_199 (e := (2, .aload_n kF0, 0)) rfl) rfl rfl ?_
  refine gt_ogr (A := 170) (B := 176) (ykc_199 (e := (5, .getfield 47, 0)) rfl) rfl hP rfl rfl rfl rfl rfl ?_
  refine gt_load (v := .ref 170) (n := 1) (ykc_199 (e := (2, .aload_n kF0, 0)) rfl) rfl rfl ?_
  refine gt_ogk (A := 170) (v := .int A) (ykc_199 (e := (5, .getfield 139, 0)) rfl) rfl hP rfl rfl hA rfl ?_
  refine gt_ialk (y := t a) (ykc_199 (e := (5, .iaload, 0)) rfl) (hX a hk) ⟨l2, hl2⟩ ha rfl ?_
  refine gt_alu (st' := [.int ((((Int8.ofInt 10).toInt32) * (Int32.ofInt 0)) + (t a))]) (ykc_199 (e := (0, .iadd, 0)) rfl) rfl rfl ?_
  refine gt_push (v := .int ((Int8.ofInt 48).toInt32)) (n := 2) (ykc_199 (e := (1, .bipush 48, 0)) rfl) rfl rfl ?_
  obtain ⟨nv, e_nv, h_nv⟩ : ∃ zq : Int32, ((((Int8.ofInt 10).toInt32) * (Int32.ofInt 0)) + (t a)) - ((Int8.ofInt 48).toInt32) = zq ∧ zq.toInt = (t a).toInt - 48 := ⟨_, rfl, by rw [show (Int8.ofInt 10).toInt32 * Int32.ofInt 0 + t a = t a by rw [show (Int8.ofInt 10).toInt32 * Int32.ofInt 0 = 0 by decide]; exact Int32.zero_add _, ti_sub (by rw [zb48]; omega) (by rw [zb48]; omega), zb48]⟩
  refine gt_alu (st' := [.int nv]) (ykc_199 (e := (0, .isub, 0)) rfl) (by rw [← e_nv]; exact rfl) rfl ?_
  refine gt_store (L' := [some (.ref 170), some (.int (Int32.ofInt 1)), some (.int nv), some (.int (Int32.ofInt 0))]) (st' := []) (n := 1) (ykc_199 (e := (3, .istore_n kF2, 0)) rfl) rfl rfl ?_
  refine gt_load (v := .ref 170) (n := 1) (ykc_199 (e := (2, .aload_n kF0, 0)) rfl) rfl rfl ?_
  refine gt_alu (st' := [.ref 170, .ref 170]) (ykc_199 (e := (0, .dup, 0)) rfl) rfl rfl ?_
  refine gt_ogk (A := 170) (v := .int A) (ykc_199 (e := (5, .getfield 139, 0)) rfl) rfl hP rfl rfl hA rfl ?_
  refine gt_alu (st' := [.int (Int32.ofInt 1), .int A, .ref 170]) (ykc_199 (e := (0, .iconst 1, 0)) rfl) rfl rfl ?_
  obtain ⟨A1, e_A1, h_A1⟩ : ∃ zq : Int32, A + (Int32.ofInt 1) = zq ∧ zq.toInt = A.toInt + 1 := ⟨_, rfl, by rw [ti_add (by rw [yi1]; omega) (by rw [yi1]; omega), yi1]⟩
  refine gt_alu (st' := [.int A1, .ref 170]) (ykc_199 (e := (0, .iadd, 0)) rfl) (by rw [← e_A1]; exact rfl) rfl ?_
  refine gt_opv (A := 170) (y := .int A1) (ty := .int) (ykc_199 (e := (5, .putfield 139, 0)) rfl) rfl hP rfl rfl rfl rfl rfl ⟨_, rfl, (show (0 : Int) ≤ A1.toInt by omega), (show A1.toInt ≤ 80 by omega)⟩ rfl (fun ph3 hP3 u3 => ?_)
  have f3_170_16 : xget ph3 170 16 = some (.int B) := (u3.2.1 170 16 (fun q => absurd q.2 (by decide))).trans hB
  refine gt_store (L' := [some (.ref 170), some (.int (Int32.ofInt 1)), some (.int nv), some (.int ((Int32.ofInt 0) + Int32.ofInt 1))]) (st' := []) (n := 3) (ykc_199 (e := (3, .iinc 3 1, 0)) rfl) rfl rfl ?_
  refine gt_br (pc' := 13) (st' := []) (ykc_199 (e := (4, .goto (-43), 13)) rfl) rfl ?_
  refine gt_load (v := .int ((Int32.ofInt 0) + Int32.ofInt 1)) (n := 1) (ykc_199 (e := (2, .iload_n kF3, 0)) rfl) rfl rfl ?_
  refine gt_load (v := .int (Int32.ofInt 1)) (n := 1) (ykc_199 (e := (2, .iload_n kF1, 0)) rfl) rfl rfl ?_
  refine gt_ige_t (ykc_199 (e := (4, .if_icmp .ge 44, 59)) rfl) (by decide) ?_
  refine gt_load (v := .int nv) (n := 1) (ykc_199 (e := (2, .iload_n kF2, 0)) rfl) rfl rfl ?_
  refine gt_ret (ykc_199 (e := (7, .ireturn, 0)) rfl) rfl ?_
  exact ⟨hP3, nv, A1, rfl, h_nv, by omega, u3⟩
set_option maxRecDepth 6000 in
theorem zlm1 {B : Int32} (hb : B.toInt = (n : Int)) (hn80 : n ≤ 80) {K : Nat} (hK : zK n t K) (kk : ∀ (ph : pm_H) (x A : Int32), x.toInt = (K : Int) → A.toInt = (K : Int) → xH xX kK m w ph → xget ph 170 15 = some (.int A) → xget ph 170 16 = some (.int B) → xGT kK (D + 1 + 1 + 1) 210 Q (44, [some (.ref 170), some (.int x), none], [], ph, 0, 0)) : ∀ (r a : Nat) (x A : Int32) (ph : pm_H), a + r = K → x.toInt = (a : Int) → A.toInt = (a : Int) → xH xX kK m w ph → xget ph 170 15 = some (.int A) → xget ph 170 16 = some (.int B) → yTX ph 176 n t → xGT kK (D + 1 + 1 + 1) 210 Q (14, [some (.ref 170), some (.int x), none], [], ph, 0, 0) := by
  obtain ⟨h20, hKn, hdg, hend⟩ := hK
  intro r
  induction r with
  | zero =>
    intro a x A ph hi hx ha hP hA hB hX
    obtain rfl : a = K := by omega
    by_cases h2 : a = 20
    · refine gt_load (v := .int x) (n := 1) (ykc_210 (e := (2, .iload_n kF1, 0)) rfl) rfl rfl ?_
      refine gt_push (v := .int ((Int8.ofInt 20).toInt32)) (n := 2) (ykc_210 (e := (1, .bipush 20, 0)) rfl) rfl rfl ?_
      refine gt_ige_t (ykc_210 (e := (4, .if_icmp .ge 27, 44)) rfl) (by rw [zb20]; omega) ?_
      exact kk _ _ _ hx ha hP hA hB
    · refine gt_load (v := .int x) (n := 1) (ykc_210 (e := (2, .iload_n kF1, 0)) rfl) rfl rfl ?_
      refine gt_push (v := .int ((Int8.ofInt 20).toInt32)) (n := 2) (ykc_210 (e := (1, .bipush 20, 0)) rfl) rfl rfl ?_
      refine gt_ige_f (ykc_210 (e := (4, .if_icmp .ge 27, 44)) rfl) (by rw [zb20]; omega) rfl ?_
      refine gt_load (v := .ref 170) (n := 1) (ykc_210 (e := (2, .aload_n kF0, 0)) rfl) rfl rfl ?_
      refine gt_ocv (A := 170) (n := 0) (as := [.ref 170]) (r := []) (ykc_210 (e := (6, .invokevirtual 171, 0)) rfl) rfl hP rfl rfl rfl rfl rfl (zisd (D := D + 1) hP hA ha hB hb (Nat.le_refl n) hX) rfl (fun vv ph1 hv => ?_)
      obtain ⟨e8, z, e9, zs⟩ := hv; subst e9; subst e8
      change xGT kK (D + 1 + 1 + 1) 210 Q (24, [some (.ref 170), some (.int x), none], [.int z], ph, 0, 0)
      have z0 : z.toInt = 0 := by
        rcases zs with ⟨-, q1, q2⟩ | ⟨q, -⟩
        · rcases hend with e | e | e
          · omega
          · exact absurd e h2
          · exact absurd q2 e
        · exact q
      refine gt_zeq_t (ykc_210 (e := (4, .ifCond .eq 20, 44)) rfl) (by omega) ?_
      exact kk _ _ _ hx ha hP hA hB
  | succ r ih =>
    intro a x A ph hi hx ha hP hA hB hX
    have hdi := hdg a (by omega)
    refine gt_load (v := .int x) (n := 1) (ykc_210 (e := (2, .iload_n kF1, 0)) rfl) rfl rfl ?_
    refine gt_push (v := .int ((Int8.ofInt 20).toInt32)) (n := 2) (ykc_210 (e := (1, .bipush 20, 0)) rfl) rfl rfl ?_
    refine gt_ige_f (ykc_210 (e := (4, .if_icmp .ge 27, 44)) rfl) (by rw [zb20]; omega) rfl ?_
    refine gt_load (v := .ref 170) (n := 1) (ykc_210 (e := (2, .aload_n kF0, 0)) rfl) rfl rfl ?_
    refine gt_ocv (A := 170) (n := 0) (as := [.ref 170]) (r := []) (ykc_210 (e := (6, .invokevirtual 171, 0)) rfl) rfl hP rfl rfl rfl rfl rfl (zisd (D := D + 1) hP hA ha hB hb (Nat.le_refl n) hX) rfl (fun vv ph1 hv => ?_)
    obtain ⟨e8, z, e9, zs⟩ := hv; subst e9; subst e8
    change xGT kK (D + 1 + 1 + 1) 210 Q (24, [some (.ref 170), some (.int x), none], [.int z], ph, 0, 0)
    have z1 : z.toInt = 1 := by
      rcases zs with ⟨q, -⟩ | ⟨-, q⟩
      · exact q
      · exact absurd hdi (q (by omega))
    refine gt_zeq_f (ykc_210 (e := (4, .ifCond .eq 20, 44)) rfl) (by omega) rfl ?_
    refine gt_load (v := .ref 170) (n := 1) (ykc_210 (e := (2, .aload_n kF0, 0)) rfl) rfl rfl ?_
    refine gt_ogr (A := 170) (B := 178) (ykc_210 (e := (5, .getfield 53, 0)) rfl) rfl hP rfl rfl rfl rfl rfl ?_
    refine gt_load (v := .int x) (n := 1) (ykc_210 (e := (2, .iload_n kF1, 0)) rfl) rfl rfl ?_
    refine gt_load (v := .ref 170) (n := 1) (ykc_210 (e := (2, .aload_n kF0, 0)) rfl) rfl rfl ?_
    refine gt_alu (st' := [.int (Int32.ofInt 1), .ref 170, .int x, .ref 178]) (ykc_210 (e := (0, .iconst 1, 0)) rfl) rfl rfl ?_
    refine gt_ocv (A := 170) (n := 1) (as := [.ref 170, .int (Int32.ofInt 1)]) (r := [.int x, .ref 178]) (ykc_210 (e := (6, .invokevirtual 224, 0)) rfl) rfl hP rfl rfl rfl rfl rfl (znum (D := D) hP hA ha hB hb (Nat.le_refl n) hX hn80 (by omega) hdi) rfl (fun vv ph2 hv => ?_)
    obtain ⟨hP1, nv, A1, e9, hnv, hA1, uu⟩ := hv; subst e9
    change xGT kK (D + 1 + 1 + 1) 210 Q (37, [some (.ref 170), some (.int x), none], [.int nv, .int x, .ref 178], ph2, 0, 0)
    have dd := hdi.1
    have dd2 := hdi.2
    refine gt_ias (A := 178) (y := nv) (x := x) (ykc_210 (e := (5, .iastore, 0)) rfl) hP1 rfl rfl (by omega) (by omega) (by rw [Nat.mod_one]; exact ⟨show (-1 : Int) ≤ nv.toInt by omega, show nv.toInt ≤ 48 by omega⟩) rfl (fun ph3 hP3 u3 => ?_)
    obtain ⟨x1, e_x1, h_x1⟩ : ∃ zq : Int32, x + Int32.ofInt 1 = zq ∧ zq.toInt = x.toInt + 1 := ⟨_, rfl, by rw [ti_add (by rw [yi1]; omega) (by rw [yi1]; omega), yi1]⟩
    refine gt_store (L' := [some (.ref 170), some (.int x1), none]) (st' := []) (n := 3) (ykc_210 (e := (3, .iinc 1 1, 0)) rfl) (by rw [← e_x1]; rfl) rfl ?_
    refine gt_br (pc' := 14) (st' := []) (ykc_210 (e := (4, .goto (-27), 14)) rfl) rfl ?_
    exact ih (a + 1) _ _ _ (by omega) (by omega) hA1 hP3 ((u3.2.1 170 15 (fun q => absurd q.1 (by decide))).trans uu.1) ((u3.2.1 170 16 (fun q => absurd q.1 (by decide))).trans ((uu.2.1 170 16 (fun q => absurd q.2 (by decide))).trans hB)) (yTX_at hX (fun c => (u3.2.1 176 c (fun q => absurd q.1 (by decide))).trans (uu.2.1 176 c (fun q => absurd q.1 (by decide)))))
set_option maxRecDepth 6000 in
theorem zlm2 {K : Nat} {x : Int32} (hx : x.toInt = (K : Int)) (h20 : K ≤ 20) (kk : ∀ ph, Q (some (.int x)) ph) : ∀ (r i : Nat) (y : Int32) (ph : pm_H), i + r = K → y.toInt = (i : Int) → xH xX kK m w ph → xGT kK (D + 1 + 1 + 1) 210 Q (73, [some (.ref 170), some (.int x), some (.int y)], [], ph, 0, 0) := by
  intro r
  induction r with
  | zero =>
    intro i y ph hi hy hP
    refine gt_load (v := .int y) (n := 1) (ykc_210 (e := (2, .iload_n kF2, 0)) rfl) rfl rfl ?_
    refine gt_load (v := .int x) (n := 1) (ykc_210 (e := (2, .iload_n kF1, 0)) rfl) rfl rfl ?_
    refine gt_ige_t (ykc_210 (e := (4, .if_icmp .ge 21, 96)) rfl) (by omega) ?_
    refine gt_load (v := .int x) (n := 1) (ykc_210 (e := (2, .iload_n kF1, 0)) rfl) rfl rfl ?_
    refine gt_ret (ykc_210 (e := (7, .ireturn, 0)) rfl) rfl ?_
    exact kk _
  | succ r ih =>
    intro i y ph hi hy hP
    refine gt_load (v := .int y) (n := 1) (ykc_210 (e := (2, .iload_n kF2, 0)) rfl) rfl rfl ?_
    refine gt_load (v := .int x) (n := 1) (ykc_210 (e := (2, .iload_n kF1, 0)) rfl) rfl rfl ?_
    refine gt_ige_f (ykc_210 (e := (4, .if_icmp .ge 21, 96)) rfl) (by omega) rfl ?_
    refine gt_load (v := .ref 170) (n := 1) (ykc_210 (e := (2, .aload_n kF0, 0)) rfl) rfl rfl ?_
    refine gt_ogr (A := 170) (B := 173) (ykc_210 (e := (5, .getfield 37, 0)) rfl) rfl hP rfl rfl rfl rfl rfl ?_
    refine gt_load (v := .int y) (n := 1) (ykc_210 (e := (2, .iload_n kF2, 0)) rfl) rfl rfl ?_
    refine gt_load (v := .ref 170) (n := 1) (ykc_210 (e := (2, .aload_n kF0, 0)) rfl) rfl rfl ?_
    refine gt_ogr (A := 170) (B := 178) (ykc_210 (e := (5, .getfield 53, 0)) rfl) rfl hP rfl rfl rfl rfl rfl ?_
    refine gt_load (v := .int y) (n := 1) (ykc_210 (e := (2, .iload_n kF2, 0)) rfl) rfl rfl ?_
    refine gt_ial (A := 178) (ykc_210 (e := (5, .iaload, 0)) rfl) hP rfl rfl (by omega) (by omega) rfl (fun e0 g_e0 b_e0 => ?_)
    refine gt_ias (A := 173) (y := e0) (x := y) (ykc_210 (e := (5, .iastore, 0)) rfl) hP rfl rfl (by omega) (by omega) xany rfl (fun ph1 hP1 u1 => ?_)
    obtain ⟨y1, e_y1, h_y1⟩ : ∃ zq : Int32, y + Int32.ofInt 1 = zq ∧ zq.toInt = y.toInt + 1 := ⟨_, rfl, by rw [ti_add (by rw [yi1]; omega) (by rw [yi1]; omega), yi1]⟩
    refine gt_store (L' := [some (.ref 170), some (.int x), some (.int y1)]) (st' := []) (n := 3) (ykc_210 (e := (3, .iinc 2 1, 0)) rfl) (by rw [← e_y1]; rfl) rfl ?_
    refine gt_br (pc' := 73) (st' := []) (ykc_210 (e := (4, .goto (-20), 73)) rfl) rfl ?_
    exact ih (i + 1) _ _ (by omega) (by omega) hP1
set_option maxRecDepth 6000 in
theorem zlightM {ph : pm_H} (hP : xH xX kK m w ph) (hT : xget ph 170 14 = some (.int T)) (ht : T.toInt = (n : Int)) (hn80 : n ≤ 80) (hX : yTX ph 176 n t) {K : Nat} (hK : zK n t K) : ∃ v ph', pm_Rd kK false (D + 1 + 1 + 1 + 1) 210 [.ref 170] ph (v, ph', 0, 0) ∧ (∃ r : Int32, v = some (.int r) ∧ r.toInt = zlv n K) := by
  refine xRd_mk (nl := 3) rfl rfl ?_
  show xGT kK (D + 1 + 1 + 1) 210 _ (0, [some (.ref 170), none, none], [], ph, 0, 0)
  refine gt_load (v := .ref 170) (n := 1) (ykc_210 (e := (2, .aload_n kF0, 0)) rfl) rfl rfl ?_
  refine gt_alu (st' := [.int (Int32.ofInt 0), .ref 170]) (ykc_210 (e := (0, .iconst 0, 0)) rfl) rfl rfl ?_
  refine gt_opv (A := 170) (y := .int (Int32.ofInt 0)) (ty := .int) (ykc_210 (e := (5, .putfield 3, 0)) rfl) rfl hP rfl rfl rfl rfl rfl ⟨_, rfl, (by decide), (by decide)⟩ rfl (fun ph1 hP1 u1 => ?_)
  have f1_170_14 : xget ph1 170 14 = some (.int T) := (u1.2.1 170 14 (fun q => absurd q.2 (by decide))).trans hT
  refine gt_load (v := .ref 170) (n := 1) (ykc_210 (e := (2, .aload_n kF0, 0)) rfl) rfl rfl ?_
  refine gt_push (v := .int ((Int8.ofInt 80).toInt32)) (n := 2) (ykc_210 (e := (1, .bipush 80, 0)) rfl) rfl rfl ?_
  refine gt_ocv (A := 170) (n := 1) (as := [.ref 170, .int ((Int8.ofInt 80).toInt32)]) (r := []) (ykc_210 (e := (6, .invokevirtual 175, 0)) rfl) rfl hP1 rfl rfl rfl rfl rfl (zbegM (D := D + 1 + 1) (y := (Int8.ofInt 80).toInt32) hP1 f1_170_14 (by omega) (by decide) (by decide)) rfl (fun vv ph2 hv => ?_)
  obtain ⟨e9, hP2, ⟨B, hB, hBT⟩, hA, -, -, hX2, -, -⟩ := hv; subst e9
  change xGT kK (D + 1 + 1 + 1) 210 _ (11, [some (.ref 170), none, none], [.int T], ph2, 0, 0)
  refine gt_alu (st' := []) (ykc_210 (e := (0, .pop, 0)) rfl) rfl rfl ?_
  refine gt_alu (st' := [.int (Int32.ofInt 0)]) (ykc_210 (e := (0, .iconst 0, 0)) rfl) rfl rfl ?_
  refine gt_store (L' := [some (.ref 170), some (.int (Int32.ofInt 0)), none]) (st' := []) (n := 1) (ykc_210 (e := (3, .istore_n kF1, 0)) rfl) rfl rfl ?_
  have y80 := yb80
  have hbn : B.toInt = (n : Int) := by
    rcases hBT with ⟨e, -⟩ | ⟨-, q⟩
    · rw [e]; exact ht
    · omega
  have h20 := hK.1
  have hKn := hK.2.1
  refine zlm1 hbn hn80 hK (fun ph' x A hx hA1 hP' hA2 hB2 => ?_) K 0 _ _ _ (by omega) yi0 yi0 hP2 hA hB (yTX_at hX (fun c => (hX2 176 c (by decide)).trans (u1.2.1 176 c (fun q => absurd q.1 (by decide)))))
  by_cases h0 : K = 0
  · refine gt_load (v := .int x) (n := 1) (ykc_210 (e := (2, .iload_n kF1, 0)) rfl) rfl rfl ?_
    refine gt_zeq_t (ykc_210 (e := (4, .ifCond .eq 14, 59)) rfl) (by omega) ?_
    refine gt_alu (st' := [.int (Int32.ofInt (-1))]) (ykc_210 (e := (0, .iconst (-1), 0)) rfl) rfl rfl ?_
    refine gt_load (v := .ref 170) (n := 1) (ykc_210 (e := (2, .aload_n kF0, 0)) rfl) rfl rfl ?_
    refine gt_ogk (A := 170) (v := .int A) (ykc_210 (e := (5, .getfield 139, 0)) rfl) rfl hP' rfl rfl hA2 rfl ?_
    obtain ⟨q1, e_q1, h_q1⟩ : ∃ zq : Int32, (Int32.ofInt (-1)) - A = zq ∧ zq.toInt = -1 - A.toInt := ⟨_, rfl, by rw [ti_sub (by rw [zm1]; omega) (by rw [zm1]; omega), zm1]⟩
    refine gt_alu (st' := [.int q1]) (ykc_210 (e := (0, .isub, 0)) rfl) (by rw [← e_q1]; exact rfl) rfl ?_
    refine gt_ret (ykc_210 (e := (7, .ireturn, 0)) rfl) rfl ?_
    exact ⟨_, rfl, by unfold zlv; rw [if_neg (fun q => by omega)]; omega⟩
  · by_cases h1 : K = n
    · refine gt_load (v := .int x) (n := 1) (ykc_210 (e := (2, .iload_n kF1, 0)) rfl) rfl rfl ?_
      refine gt_zeq_f (ykc_210 (e := (4, .ifCond .eq 14, 59)) rfl) (by omega) rfl ?_
      refine gt_load (v := .ref 170) (n := 1) (ykc_210 (e := (2, .aload_n kF0, 0)) rfl) rfl rfl ?_
      refine gt_ogk (A := 170) (v := .int A) (ykc_210 (e := (5, .getfield 139, 0)) rfl) rfl hP' rfl rfl hA2 rfl ?_
      refine gt_load (v := .ref 170) (n := 1) (ykc_210 (e := (2, .aload_n kF0, 0)) rfl) rfl rfl ?_
      refine gt_ogk (A := 170) (v := .int B) (ykc_210 (e := (5, .getfield 151, 0)) rfl) rfl hP' rfl rfl hB2 rfl ?_
      refine gt_ige_t (ykc_210 (e := (4, .if_icmp .ge 10, 66)) rfl) (by omega) ?_
      refine gt_load (v := .ref 170) (n := 1) (ykc_210 (e := (2, .aload_n kF0, 0)) rfl) rfl rfl ?_
      refine gt_load (v := .int x) (n := 1) (ykc_210 (e := (2, .iload_n kF1, 0)) rfl) rfl rfl ?_
      refine gt_opv (A := 170) (y := .int x) (ty := .int) (ykc_210 (e := (5, .putfield 30, 0)) rfl) rfl hP' rfl rfl rfl rfl rfl ⟨_, rfl, (show (1 : Int) ≤ x.toInt by omega), (show x.toInt ≤ 20 by omega)⟩ rfl (fun ph131 hP131 u131 => ?_)
      have f131_170_15 : xget ph131 170 15 = some (.int A) := (u131.2.1 170 15 (fun q => absurd q.2 (by decide))).trans hA2
      have f131_170_16 : xget ph131 170 16 = some (.int B) := (u131.2.1 170 16 (fun q => absurd q.2 (by decide))).trans hB2
      refine gt_alu (st' := [.int (Int32.ofInt 0)]) (ykc_210 (e := (0, .iconst 0, 0)) rfl) rfl rfl ?_
      refine gt_store (L' := [some (.ref 170), some (.int x), some (.int (Int32.ofInt 0))]) (st' := []) (n := 1) (ykc_210 (e := (3, .istore_n kF2, 0)) rfl) rfl rfl ?_
      exact zlm2 hx h20 (fun _ => ⟨_, rfl, by unfold zlv; rw [if_pos ⟨by omega, h1⟩]; omega⟩) K 0 _ _ (by omega) yi0 hP131
    · refine gt_load (v := .int x) (n := 1) (ykc_210 (e := (2, .iload_n kF1, 0)) rfl) rfl rfl ?_
      refine gt_zeq_f (ykc_210 (e := (4, .ifCond .eq 14, 59)) rfl) (by omega) rfl ?_
      refine gt_load (v := .ref 170) (n := 1) (ykc_210 (e := (2, .aload_n kF0, 0)) rfl) rfl rfl ?_
      refine gt_ogk (A := 170) (v := .int A) (ykc_210 (e := (5, .getfield 139, 0)) rfl) rfl hP' rfl rfl hA2 rfl ?_
      refine gt_load (v := .ref 170) (n := 1) (ykc_210 (e := (2, .aload_n kF0, 0)) rfl) rfl rfl ?_
      refine gt_ogk (A := 170) (v := .int B) (ykc_210 (e := (5, .getfield 151, 0)) rfl) rfl hP' rfl rfl hB2 rfl ?_
      refine gt_ige_f (ykc_210 (e := (4, .if_icmp .ge 10, 66)) rfl) (by omega) rfl ?_
      refine gt_alu (st' := [.int (Int32.ofInt (-1))]) (ykc_210 (e := (0, .iconst (-1), 0)) rfl) rfl rfl ?_
      refine gt_load (v := .ref 170) (n := 1) (ykc_210 (e := (2, .aload_n kF0, 0)) rfl) rfl rfl ?_
      refine gt_ogk (A := 170) (v := .int A) (ykc_210 (e := (5, .getfield 139, 0)) rfl) rfl hP' rfl rfl hA2 rfl ?_
      obtain ⟨q1, e_q1, h_q1⟩ : ∃ zq : Int32, (Int32.ofInt (-1)) - A = zq ∧ zq.toInt = -1 - A.toInt := ⟨_, rfl, by rw [ti_sub (by rw [zm1]; omega) (by rw [zm1]; omega), zm1]⟩
      refine gt_alu (st' := [.int q1]) (ykc_210 (e := (0, .isub, 0)) rfl) (by rw [← e_q1]; exact rfl) rfl ?_
      refine gt_ret (ykc_210 (e := (7, .ireturn, 0)) rfl) rfl ?_
      exact ⟨_, rfl, by unfold zlv; rw [if_neg (fun q => h1 q.2)]; omega⟩
end ZL
