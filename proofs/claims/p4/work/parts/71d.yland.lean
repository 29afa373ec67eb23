/-! the class reads a valley, by hand, printed by wip/y/h_zzw.py -/
set_option maxRecDepth 6000 in
theorem zb46 : ((Int8.ofInt 46).toInt32).toInt = 46 := by decide
set_option maxRecDepth 6000 in
theorem zb35 : ((Int8.ofInt 35).toInt32).toInt = 35 := by decide
set_option maxRecDepth 6000 in
theorem zb49 : ((Int8.ofInt 49).toInt32).toInt = 49 := by decide
set_option maxRecDepth 6000 in
theorem zb7 : ((Int8.ofInt 7).toInt32).toInt = 7 := by decide
set_option maxRecDepth 6000 in
theorem zi2 : (Int32.ofInt 2).toInt = 2 := by decide
set_option maxRecDepth 6000 in
theorem zi3 : (Int32.ofInt 3).toInt = 3 := by decide
/-- a digit 3 .. 7 at p, or -1 -/
def zsd (n : Nat) (t : Nat → Int32) (p : Nat) : Int := if p < n ∧ 51 ≤ (t p).toInt ∧ (t p).toInt ≤ 55 then (t p).toInt - 48 else -1
/-- a sign of a field at p -/
def zfs (n : Nat) (t : Nat → Int32) (p : Nat) : Prop := p < n ∧ ((t p).toInt = 46 ∨ (t p).toInt = 35)
/-- so many of N fields are told well -/
def zF (n : Nat) (t : Nat → Int32) (N F : Nat) : Prop := F ≤ N ∧ (∀ i, i < F → zfs n t (2 + i)) ∧ (F = N ∨ ¬ zfs n t (2 + F))
set_option maxRecDepth 6000 in
theorem zF_ex (n : Nat) (t : Nat → Int32) (N : Nat) : ∃ F, zF n t N F := by
  have h : ∀ b, b ≤ N → (∀ i, i < b → zfs n t (2 + i)) ∨ ∃ K, K < b ∧ (∀ i, i < K → zfs n t (2 + i)) ∧ ¬ zfs n t (2 + K) := by
    intro b
    induction b with
    | zero => intro _; exact Or.inl fun i hi => absurd hi (Nat.not_lt_zero _)
    | succ b ih =>
      intro h1
      rcases ih (by omega) with h | ⟨K, k1, k2, k3⟩
      · by_cases hd : zfs n t (2 + b)
        · exact Or.inl fun i hi => by
            by_cases e : i = b
            · subst e; exact hd
            · exact h i (by omega)
        · exact Or.inr ⟨b, by omega, h, hd⟩
      · exact Or.inr ⟨K, by omega, k2, k3⟩
  rcases h N (Nat.le_refl _) with h | ⟨K, k1, k2, k3⟩
  · exact ⟨N, Nat.le_refl _, h, Or.inl rfl⟩
  · exact ⟨K, by omega, k2, Or.inr k3⟩
/-- what valley answers, R and C the sides, F the fields told well -/
def zvv (n : Nat) (R C : Int) (F : Nat) : Int := if R < 0 then -1 else if C < 0 then -2 else if (F : Int) < R * C then -3 - (F : Int) else if 2 + R * C < (n : Int) then -3 - R * C else R * C
section ZV
variable {m : Int} {w D : Nat} {Q : Option Value → pm_H → Prop} {T : Int32} {n : Nat} {t : Nat → Int32}

set_option maxRecDepth 6000 in
theorem zsideC {ph : pm_H} (hP : xH xX kK m w ph) (hT : xget ph 1 1 = some (.int T)) (ht : T.toInt = (n : Int)) (hX : yTX ph 2 n t) {x : Int32} {k : Nat} (hx : x.toInt = (k : Int)) : ∃ v ph', pm_Rd kK false (D + 1 + 1 + 1) 35 [.ref 1, .int x] ph (v, ph', 0, 0) ∧ (ph = ph' ∧ ∃ d : Int32, v = some (.int d) ∧ d.toInt = zsd n t k) := by
  refine xRd_mk (nl := 3) rfl rfl ?_
  show xGT kK (D + 1 + 1) 35 _ (0, [some (.ref 1), some (.int x), none], [], ph, 0, 0)
  refine gt_load (v := .ref 1) (n := 1) (ykc_35 (e := (2, .aload_n kF0, 0)) rfl) rfl rfl ?_
  refine gt_load (v := .int x) (n := 1) (ykc_35 (e := (2, .iload_n kF1, 0)) rfl) rfl rfl ?_
  refine gt_ocv (A := 1) (n := 1) (as := [.ref 1, .int x]) (r := []) (ykc_35 (e := (6, .invokevirtual 43, 0)) rfl) rfl hP rfl rfl rfl rfl rfl (zdgC (D := D) hP hT ht hX hx) rfl (fun vv ph1 hv => ?_)
  obtain ⟨e8, d, e9, hd⟩ := hv; subst e9; subst e8
  change xGT kK (D + 1 + 1) 35 _ (5, [some (.ref 1), some (.int x), none], [.int d], ph, 0, 0)
  refine gt_store (L' := [some (.ref 1), some (.int x), some (.int d)]) (st' := []) (n := 1) (ykc_35 (e := (3, .istore_n kF2, 0)) rfl) rfl rfl ?_
  refine gt_load (v := .int d) (n := 1) (ykc_35 (e := (2, .iload_n kF2, 0)) rfl) rfl rfl ?_
  refine gt_alu (st' := [.int (Int32.ofInt 3), .int d]) (ykc_35 (e := (0, .iconst 3, 0)) rfl) rfl rfl ?_
  by_cases c1 : d.toInt < 3
  · refine gt_ilt_t (ykc_35 (e := (4, .if_icmp .lt 13, 21)) rfl) (by rw [zi3]; omega) ?_
    refine gt_alu (st' := [.int (Int32.ofInt (-1))]) (ykc_35 (e := (0, .iconst (-1), 0)) rfl) rfl rfl ?_
    refine gt_ret (ykc_35 (e := (7, .ireturn, 0)) rfl) rfl ?_
    refine ⟨rfl, _, rfl, ?_⟩
    unfold zsd
    rw [if_neg (fun q => ?_)]
    · decide
    · obtain ⟨q1, q2, q3⟩ := q
      rcases hd with ⟨-, -, e⟩ | ⟨e, -⟩
      · omega
      · exact e q1 ⟨by omega, by omega⟩
  · refine gt_ilt_f (ykc_35 (e := (4, .if_icmp .lt 13, 21)) rfl) (by rw [zi3]; omega) rfl ?_
    refine gt_load (v := .int d) (n := 1) (ykc_35 (e := (2, .iload_n kF2, 0)) rfl) rfl rfl ?_
    refine gt_push (v := .int ((Int8.ofInt 7).toInt32)) (n := 2) (ykc_35 (e := (1, .bipush 7, 0)) rfl) rfl rfl ?_
    have h1 : k < n ∧ zdg (t k) ∧ d.toInt = (t k).toInt - 48 := by
      rcases hd with h | ⟨-, e⟩
      · exact h
      · omega
    by_cases c2 : 7 < d.toInt
    · refine gt_igt_t (ykc_35 (e := (4, .if_icmp .gt 7, 21)) rfl) (by rw [zb7]; omega) ?_
      refine gt_alu (st' := [.int (Int32.ofInt (-1))]) (ykc_35 (e := (0, .iconst (-1), 0)) rfl) rfl rfl ?_
      refine gt_ret (ykc_35 (e := (7, .ireturn, 0)) rfl) rfl ?_
      refine ⟨rfl, _, rfl, ?_⟩
      unfold zsd
      rw [if_neg (fun q => by obtain ⟨-, -, q3⟩ := q; omega)]
      decide
    · refine gt_igt_f (ykc_35 (e := (4, .if_icmp .gt 7, 21)) rfl) (by rw [zb7]; omega) rfl ?_
      refine gt_load (v := .int d) (n := 1) (ykc_35 (e := (2, .iload_n kF2, 0)) rfl) rfl rfl ?_
      refine gt_br (pc' := 22) (st' := [.int d]) (ykc_35 (e := (4, .goto 4, 22)) rfl) rfl ?_
      refine gt_ret (ykc_35 (e := (7, .ireturn, 0)) rfl) rfl ?_
      refine ⟨rfl, _, rfl, ?_⟩
      unfold zsd
      rw [if_pos ⟨h1.1, by omega, by omega⟩]
      exact h1.2.2
/-- rows and columns of the fields below k -/
def zRC (p : pm_H) (cn k : Nat) : Prop := ∀ f, f < k → (∃ a : Int32, xget p 6 f = some (.int a) ∧ a.toInt = ((f / cn : Nat) : Int)) ∧ ∃ a : Int32, xget p 7 f = some (.int a) ∧ a.toInt = ((f % cn : Nat) : Int)
set_option maxRecDepth 6000 in
theorem zRC_s {p p' : pm_H} {cn rn co : Nat} {ro c : Int32} (h : zRC p cn (rn * cn + co)) (hc : co < cn) (hr : ro.toInt = (rn : Int)) (hcc : c.toInt = (co : Int)) (h6 : xget p' 6 (rn * cn + co) = some (.int ro)) (h7 : xget p' 7 (rn * cn + co) = some (.int c)) (g6 : ∀ f, f ≠ rn * cn + co → xget p' 6 f = xget p 6 f) (g7 : ∀ f, f ≠ rn * cn + co → xget p' 7 f = xget p 7 f) : zRC p' cn (rn * cn + (co + 1)) := fun f hf => by
  have hd : (rn * cn + co) / cn = rn := by rw [Nat.mul_comm, Nat.mul_add_div (by omega), Nat.div_eq_of_lt hc, Nat.add_zero]
  have hm : (rn * cn + co) % cn = co := by rw [Nat.mul_comm, Nat.mul_add_mod, Nat.mod_eq_of_lt hc]
  by_cases e : f = rn * cn + co
  · subst e
    exact ⟨⟨ro, h6, by rw [hd]; exact hr⟩, c, h7, by rw [hm]; exact hcc⟩
  · obtain ⟨⟨a, a1, a2⟩, b, b1, b2⟩ := h f (by omega)
    exact ⟨⟨a, (g6 f e).trans a1, a2⟩, b, (g7 f e).trans b1, b2⟩
set_option maxRecDepth 6000 in
theorem zRC_eq {p p' : pm_H} {cn k : Nat} (h : zRC p cn k) (g6 : ∀ f, xget p' 6 f = xget p 6 f) (g7 : ∀ f, xget p' 7 f = xget p 7 f) : zRC p' cn k := fun f hf => by
  obtain ⟨⟨a, a1, a2⟩, b, b1, b2⟩ := h f hf
  exact ⟨⟨a, (g6 f).trans a1, a2⟩, b, (g7 f).trans b1, b2⟩
/-- the valley laid as far as k -/
def zLD (p0 p : pm_H) (r c : Int32) (l : Int64) (cn k : Nat) : Prop := xget p 5 0 = some (.int r) ∧ xget p 5 1 = some (.int c) ∧ xget p 5 3 = some (.long l) ∧ xget p 5 4 = some (.long (Int64.ofNat kG0)) ∧ (∃ S : Int32, xget p 5 2 = some (.int S) ∧ S.toInt = (k : Int)) ∧ zRC p cn k ∧ ∀ b, b ≠ 5 → b ≠ 6 → b ≠ 7 → pm_at p b = pm_at p0 b
set_option maxRecDepth 6000 in
theorem zshI {p0 : pm_H} {r c ro : Int32} {l : Int64} {rn cn n9 : Nat} (hc : c.toInt = (cn : Int)) (hcn : cn ≤ 7) (hro : ro.toInt = (rn : Int)) (hrn : rn < n9) (hn9 : n9 ≤ 7) (kk : ∀ (ph : pm_H) (x : Option Value), xH xX kK m w ph → zLD p0 ph r c l cn (rn * cn + cn) → xGT kK D 36 Q (96, [some (.ref 5), some (.int r), some (.int c), some (.long l), none, some (.int ro), x], [], ph, 0, 0)) : ∀ (q co : Nat) (C : Int32) (ph : pm_H), co + q = cn → C.toInt = (co : Int) → xH xX kK m w ph → zLD p0 ph r c l cn (rn * cn + co) → xGT kK D 36 Q (40, [some (.ref 5), some (.int r), some (.int c), some (.long l), none, some (.int ro), some (.int C)], [], ph, 0, 0) := by
  have h42 : rn * cn ≤ 42 := Nat.le_trans (Nat.mul_le_mul (show rn ≤ 6 by omega) hcn) (by decide)
  intro q
  induction q with
  | zero =>
    intro i co ph hi hco hP hL
    obtain rfl : i = cn := by omega
    obtain ⟨h0, h1, h3, h4, ⟨S, h2, hS⟩, hRC, hB⟩ := hL
    refine gt_load (v := .int co) (n := 2) (ykc_36 (e := (2, .iload 6, 0)) rfl) rfl rfl ?_
    refine gt_load (v := .ref 5) (n := 1) (ykc_36 (e := (2, .aload_n kF0, 0)) rfl) rfl rfl ?_
    refine gt_ogk (A := 5) (v := .int c) (ykc_36 (e := (5, .getfield 50, 0)) rfl) rfl hP rfl rfl h1 rfl ?_
    refine gt_ige_t (ykc_36 (e := (4, .if_icmp .ge 50, 96)) rfl) (by omega) ?_
    exact kk _ _ hP ⟨h0, h1, h3, h4, ⟨S, h2, hS⟩, hRC, hB⟩
  | succ q ih =>
    intro i co ph hi hco hP hL
    obtain ⟨h0, h1, h3, h4, ⟨S, h2, hS⟩, hRC, hB⟩ := hL
    refine gt_load (v := .int co) (n := 2) (ykc_36 (e := (2, .iload 6, 0)) rfl) rfl rfl ?_
    refine gt_load (v := .ref 5) (n := 1) (ykc_36 (e := (2, .aload_n kF0, 0)) rfl) rfl rfl ?_
    refine gt_ogk (A := 5) (v := .int c) (ykc_36 (e := (5, .getfield 50, 0)) rfl) rfl hP rfl rfl h1 rfl ?_
    refine gt_ige_f (ykc_36 (e := (4, .if_icmp .ge 50, 96)) rfl) (by omega) rfl ?_
    refine gt_load (v := .ref 5) (n := 1) (ykc_36 (e := (2, .aload_n kF0, 0)) rfl) rfl rfl ?_
    refine gt_ogk (A := 5) (v := .int S) (ykc_36 (e := (5, .getfield 60, 0)) rfl) rfl hP rfl rfl h2 rfl ?_
    refine gt_push (v := .int ((Int8.ofInt 49).toInt32)) (n := 2) (ykc_36 (e := (1, .bipush 49, 0)) rfl) rfl rfl ?_
    refine gt_ige_f (ykc_36 (e := (4, .if_icmp .ge 41, 96)) rfl) (by rw [zb49]; omega) rfl ?_
    refine gt_load (v := .ref 5) (n := 1) (ykc_36 (e := (2, .aload_n kF0, 0)) rfl) rfl rfl ?_
    refine gt_ogr (A := 5) (B := 6) (ykc_36 (e := (5, .getfield 9, 0)) rfl) rfl hP rfl rfl rfl rfl rfl ?_
    refine gt_load (v := .ref 5) (n := 1) (ykc_36 (e := (2, .aload_n kF0, 0)) rfl) rfl rfl ?_
    refine gt_ogk (A := 5) (v := .int S) (ykc_36 (e := (5, .getfield 60, 0)) rfl) rfl hP rfl rfl h2 rfl ?_
    refine gt_load (v := .int ro) (n := 2) (ykc_36 (e := (2, .iload 5, 0)) rfl) rfl rfl ?_
    refine gt_ias (A := 6) (y := ro) (x := S) (ykc_36 (e := (5, .iastore, 0)) rfl) hP rfl rfl (by omega) (by omega) (by rw [Nat.mod_one]; exact ⟨show (0 : Int) ≤ ro.toInt by omega, show ro.toInt ≤ 6 by omega⟩) rfl (fun ph1 hP1 u1 => ?_)
    have f1_5_0 : xget ph1 5 0 = some (.int r) := (u1.2.1 5 0 (fun q => absurd q.1 (by decide))).trans h0
    have f1_5_1 : xget ph1 5 1 = some (.int c) := (u1.2.1 5 1 (fun q => absurd q.1 (by decide))).trans h1
    have f1_5_2 : xget ph1 5 2 = some (.int S) := (u1.2.1 5 2 (fun q => absurd q.1 (by decide))).trans h2
    have f1_5_3 : xget ph1 5 3 = some (.long l) := (u1.2.1 5 3 (fun q => absurd q.1 (by decide))).trans h3
    have f1_5_4 : xget ph1 5 4 = some (.long (Int64.ofNat kG0)) := (u1.2.1 5 4 (fun q => absurd q.1 (by decide))).trans h4
    refine gt_load (v := .ref 5) (n := 1) (ykc_36 (e := (2, .aload_n kF0, 0)) rfl) rfl rfl ?_
    refine gt_ogr (A := 5) (B := 7) (ykc_36 (e := (5, .getfield 15, 0)) rfl) rfl hP1 rfl rfl rfl rfl rfl ?_
    refine gt_load (v := .ref 5) (n := 1) (ykc_36 (e := (2, .aload_n kF0, 0)) rfl) rfl rfl ?_
    refine gt_ogk (A := 5) (v := .int S) (ykc_36 (e := (5, .getfield 60, 0)) rfl) rfl hP1 rfl rfl f1_5_2 rfl ?_
    refine gt_load (v := .int co) (n := 2) (ykc_36 (e := (2, .iload 6, 0)) rfl) rfl rfl ?_
    refine gt_ias (A := 7) (y := co) (x := S) (ykc_36 (e := (5, .iastore, 0)) rfl) hP1 rfl rfl (by omega) (by omega) (by rw [Nat.mod_one]; exact ⟨show (0 : Int) ≤ co.toInt by omega, show co.toInt ≤ 6 by omega⟩) rfl (fun ph2 hP2 u2 => ?_)
    have f2_5_0 : xget ph2 5 0 = some (.int r) := (u2.2.1 5 0 (fun q => absurd q.1 (by decide))).trans f1_5_0
    have f2_5_1 : xget ph2 5 1 = some (.int c) := (u2.2.1 5 1 (fun q => absurd q.1 (by decide))).trans f1_5_1
    have f2_5_2 : xget ph2 5 2 = some (.int S) := (u2.2.1 5 2 (fun q => absurd q.1 (by decide))).trans f1_5_2
    have f2_5_3 : xget ph2 5 3 = some (.long l) := (u2.2.1 5 3 (fun q => absurd q.1 (by decide))).trans f1_5_3
    have f2_5_4 : xget ph2 5 4 = some (.long (Int64.ofNat kG0)) := (u2.2.1 5 4 (fun q => absurd q.1 (by decide))).trans f1_5_4
    refine gt_load (v := .ref 5) (n := 1) (ykc_36 (e := (2, .aload_n kF0, 0)) rfl) rfl rfl ?_
    refine gt_alu (st' := [.ref 5, .ref 5]) (ykc_36 (e := (0, .dup, 0)) rfl) rfl rfl ?_
    refine gt_ogk (A := 5) (v := .int S) (ykc_36 (e := (5, .getfield 60, 0)) rfl) rfl hP2 rfl rfl f2_5_2 rfl ?_
    refine gt_alu (st' := [.int (Int32.ofInt 1), .int S, .ref 5]) (ykc_36 (e := (0, .iconst 1, 0)) rfl) rfl rfl ?_
    obtain ⟨S1, e_S1, h_S1⟩ : ∃ zq : Int32, S + (Int32.ofInt 1) = zq ∧ zq.toInt = S.toInt + 1 := ⟨_, rfl, by rw [ti_add (by rw [yi1]; omega) (by rw [yi1]; omega), yi1]⟩
    refine gt_alu (st' := [.int S1, .ref 5]) (ykc_36 (e := (0, .iadd, 0)) rfl) (by rw [← e_S1]; exact rfl) rfl ?_
    refine gt_opv (A := 5) (y := .int S1) (ty := .int) (ykc_36 (e := (5, .putfield 60, 0)) rfl) rfl hP2 rfl rfl rfl rfl rfl ⟨_, rfl, (show (0 : Int) ≤ S1.toInt by omega), (show S1.toInt ≤ 49 by omega)⟩ rfl (fun ph3 hP3 u3 => ?_)
    have f3_5_0 : xget ph3 5 0 = some (.int r) := (u3.2.1 5 0 (fun q => absurd q.2 (by decide))).trans f2_5_0
    have f3_5_1 : xget ph3 5 1 = some (.int c) := (u3.2.1 5 1 (fun q => absurd q.2 (by decide))).trans f2_5_1
    have f3_5_3 : xget ph3 5 3 = some (.long l) := (u3.2.1 5 3 (fun q => absurd q.2 (by decide))).trans f2_5_3
    have f3_5_4 : xget ph3 5 4 = some (.long (Int64.ofNat kG0)) := (u3.2.1 5 4 (fun q => absurd q.2 (by decide))).trans f2_5_4
    obtain ⟨co1, e_co1, h_co1⟩ : ∃ zq : Int32, co + Int32.ofInt 1 = zq ∧ zq.toInt = co.toInt + 1 := ⟨_, rfl, by rw [ti_add (by rw [yi1]; omega) (by rw [yi1]; omega), yi1]⟩
    refine gt_store (L' := [some (.ref 5), some (.int r), some (.int c), some (.long l), none, some (.int ro), some (.int co1)]) (st' := []) (n := 3) (ykc_36 (e := (3, .iinc 6 1, 0)) rfl) (by rw [← e_co1]; rfl) rfl ?_
    refine gt_br (pc' := 40) (st' := []) (ykc_36 (e := (4, .goto (-53), 40)) rfl) rfl ?_
    have es : S.toInt.toNat = rn * cn + i := by omega
    have w6 := u1.1
    have w7 := u2.1
    rw [es] at w6 w7
    refine ih (i + 1) _ _ (by omega) (by omega) hP3 ⟨f3_5_0, f3_5_1, f3_5_3, f3_5_4, ⟨S1, u3.1, by rw [h_S1, hS]; omega⟩, zRC_s hRC (by omega) hro hco ((u3.2.1 6 _ (fun q => absurd q.1 (by decide))).trans ((u2.2.1 6 _ (fun q => absurd q.1 (by decide))).trans w6)) ((u3.2.1 7 _ (fun q => absurd q.1 (by decide))).trans w7) (fun f hf => (u3.2.1 6 _ (fun q => absurd q.1 (by decide))).trans ((u2.2.1 6 _ (fun q => absurd q.1 (by decide))).trans (u1.2.1 6 _ (fun q => hf (by omega))))) (fun f hf => (u3.2.1 7 _ (fun q => absurd q.1 (by decide))).trans ((u2.2.1 7 _ (fun q => hf (by omega))).trans (u1.2.1 7 _ (fun q => absurd q.1 (by decide))))), fun b b5 b6 b7 => ((u3.2.2 b b5).trans ((u2.2.2 b b7).trans (u1.2.2 b b6))).trans (hB b b5 b6 b7)⟩
set_option maxRecDepth 6000 in
theorem zshO {p0 : pm_H} {r c : Int32} {l : Int64} {rn cn : Nat} (hr : r.toInt = (rn : Int)) (hrn : rn ≤ 7) (hc : c.toInt = (cn : Int)) (hcn : cn ≤ 7) (kk : ∀ ph, xH xX kK m w ph → zLD p0 ph r c l cn (rn * cn) → Q none ph) : ∀ (q i : Nat) (ro : Int32) (x : Option Value) (ph : pm_H), i + q = rn → ro.toInt = (i : Int) → xH xX kK m w ph → zLD p0 ph r c l cn (i * cn) → xGT kK D 36 Q (28, [some (.ref 5), some (.int r), some (.int c), some (.long l), none, some (.int ro), x], [], ph, 0, 0) := by
  intro q
  induction q with
  | zero =>
    intro i ro x ph hi hro hP hL
    obtain rfl : i = rn := by omega
    obtain ⟨h0, h1, h3, h4, ⟨S, h2, hS⟩, hRC, hB⟩ := hL
    refine gt_load (v := .int ro) (n := 2) (ykc_36 (e := (2, .iload 5, 0)) rfl) rfl rfl ?_
    refine gt_load (v := .ref 5) (n := 1) (ykc_36 (e := (2, .aload_n kF0, 0)) rfl) rfl rfl ?_
    refine gt_ogk (A := 5) (v := .int r) (ykc_36 (e := (5, .getfield 46, 0)) rfl) rfl hP rfl rfl h0 rfl ?_
    refine gt_ige_t (ykc_36 (e := (4, .if_icmp .ge 68, 102)) rfl) (by omega) ?_
    refine gt_ret (ykc_36 (e := (7, .return_, 0)) rfl) rfl ?_
    exact kk _ hP ⟨h0, h1, h3, h4, ⟨S, h2, hS⟩, hRC, hB⟩
  | succ q ih =>
    intro i ro x ph hi hro hP hL
    obtain ⟨h0, h1, h3, h4, ⟨S, h2, hS⟩, hRC, hB⟩ := hL
    refine gt_load (v := .int ro) (n := 2) (ykc_36 (e := (2, .iload 5, 0)) rfl) rfl rfl ?_
    refine gt_load (v := .ref 5) (n := 1) (ykc_36 (e := (2, .aload_n kF0, 0)) rfl) rfl rfl ?_
    refine gt_ogk (A := 5) (v := .int r) (ykc_36 (e := (5, .getfield 46, 0)) rfl) rfl hP rfl rfl h0 rfl ?_
    refine gt_ige_f (ykc_36 (e := (4, .if_icmp .ge 68, 102)) rfl) (by omega) rfl ?_
    refine gt_alu (st' := [.int (Int32.ofInt 0)]) (ykc_36 (e := (0, .iconst 0, 0)) rfl) rfl rfl ?_
    refine gt_store (L' := [some (.ref 5), some (.int r), some (.int c), some (.long l), none, some (.int ro), some (.int (Int32.ofInt 0))]) (st' := []) (n := 2) (ykc_36 (e := (3, .istore 6, 0)) rfl) rfl rfl ?_
    refine zshI hc hcn hro (show i < rn by omega) hrn (fun ph' x' hP' hL' => ?_) cn 0 _ _ (by omega) yi0 hP ⟨h0, h1, h3, h4, ⟨S, h2, hS⟩, hRC, hB⟩
    obtain ⟨ro1, e_ro1, h_ro1⟩ : ∃ zq : Int32, ro + Int32.ofInt 1 = zq ∧ zq.toInt = ro.toInt + 1 := ⟨_, rfl, by rw [ti_add (by rw [yi1]; omega) (by rw [yi1]; omega), yi1]⟩
    refine gt_store (L' := [some (.ref 5), some (.int r), some (.int c), some (.long l), none, some (.int ro1), x']) (st' := []) (n := 3) (ykc_36 (e := (3, .iinc 5 1, 0)) rfl) (by rw [← e_ro1]; rfl) rfl ?_
    refine gt_br (pc' := 28) (st' := []) (ykc_36 (e := (4, .goto (-71), 28)) rfl) rfl ?_
    exact ih (i + 1) _ _ _ (by omega) (by omega) hP' (by rw [show (i + 1) * cn = i * cn + cn by rw [Nat.add_mul, Nat.one_mul]]; exact hL')
set_option maxRecDepth 6000 in
theorem zshape {r c : Int32} {l : Int64} {rn cn : Nat} (hr : r.toInt = (rn : Int)) (hr3 : 3 ≤ rn) (hrn : rn ≤ 7) (hc : c.toInt = (cn : Int)) (hc3 : 3 ≤ cn) (hcn : cn ≤ 7) {ph : pm_H} (hP : xH xX kK m w ph) : ∃ v ph', pm_Rd kK false (D + 1) 36 [.ref 5, .int r, .int c, .long l] ph (v, ph', 0, 0) ∧ (v = none ∧ xH xX kK m w ph' ∧ zLD ph ph' r c l cn (rn * cn)) := by
  refine xRd_mk (nl := 7) rfl rfl ?_
  show xGT kK D 36 _ (0, [some (.ref 5), some (.int r), some (.int c), some (.long l), none, none, none], [], ph, 0, 0)
  refine gt_load (v := .ref 5) (n := 1) (ykc_36 (e := (2, .aload_n kF0, 0)) rfl) rfl rfl ?_
  refine gt_load (v := .int r) (n := 1) (ykc_36 (e := (2, .iload_n kF1, 0)) rfl) rfl rfl ?_
  refine gt_opv (A := 5) (y := .int r) (ty := .int) (ykc_36 (e := (5, .putfield 46, 0)) rfl) rfl hP rfl rfl rfl rfl rfl ⟨_, rfl, (show (3 : Int) ≤ r.toInt by omega), (show r.toInt ≤ 7 by omega)⟩ rfl (fun ph1 hP1 u1 => ?_)
  refine gt_load (v := .ref 5) (n := 1) (ykc_36 (e := (2, .aload_n kF0, 0)) rfl) rfl rfl ?_
  refine gt_load (v := .int c) (n := 1) (ykc_36 (e := (2, .iload_n kF2, 0)) rfl) rfl rfl ?_
  refine gt_opv (A := 5) (y := .int c) (ty := .int) (ykc_36 (e := (5, .putfield 50, 0)) rfl) rfl hP1 rfl rfl rfl rfl rfl ⟨_, rfl, (show (3 : Int) ≤ c.toInt by omega), (show c.toInt ≤ 7 by omega)⟩ rfl (fun ph2 hP2 u2 => ?_)
  have f2_5_0 : xget ph2 5 0 = some (.int r) := (u2.2.1 5 0 (fun q => absurd q.2 (by decide))).trans u1.1
  refine gt_load (v := .ref 5) (n := 1) (ykc_36 (e := (2, .aload_n kF0, 0)) rfl) rfl rfl ?_
  refine gt_load (v := .long l) (n := 1) (ykc_36 (e := (2, .lload_n kF3, 0)) rfl) rfl rfl ?_
  refine gt_opv (A := 5) (y := .long l) (ty := .long) (ykc_36 (e := (5, .putfield 53, 0)) rfl) rfl hP2 rfl rfl rfl rfl rfl ⟨_, rfl⟩ rfl (fun ph3 hP3 u3 => ?_)
  have f3_5_0 : xget ph3 5 0 = some (.int r) := (u3.2.1 5 0 (fun q => absurd q.2 (by decide))).trans f2_5_0
  have f3_5_1 : xget ph3 5 1 = some (.int c) := (u3.2.1 5 1 (fun q => absurd q.2 (by decide))).trans u2.1
  refine gt_load (v := .ref 5) (n := 1) (ykc_36 (e := (2, .aload_n kF0, 0)) rfl) rfl rfl ?_
  refine gt_alu (st' := [.long (Int64.ofNat kG0), .ref 5]) (ykc_36 (e := (0, .lconst kG0, 0)) rfl) rfl rfl ?_
  refine gt_opv (A := 5) (y := .long (Int64.ofNat kG0)) (ty := .long) (ykc_36 (e := (5, .putfield 57, 0)) rfl) rfl hP3 rfl rfl rfl rfl rfl ⟨_, rfl⟩ rfl (fun ph4 hP4 u4 => ?_)
  have f4_5_0 : xget ph4 5 0 = some (.int r) := (u4.2.1 5 0 (fun q => absurd q.2 (by decide))).trans f3_5_0
  have f4_5_1 : xget ph4 5 1 = some (.int c) := (u4.2.1 5 1 (fun q => absurd q.2 (by decide))).trans f3_5_1
  have f4_5_3 : xget ph4 5 3 = some (.long l) := (u4.2.1 5 3 (fun q => absurd q.2 (by decide))).trans u3.1
  refine gt_load (v := .ref 5) (n := 1) (ykc_36 (e := (2, .aload_n kF0, 0)) rfl) rfl rfl ?_
  refine gt_alu (st' := [.int (Int32.ofInt 0), .ref 5]) (ykc_36 (e := (0, .iconst 0, 0)) rfl) rfl rfl ?_
  refine gt_opv (A := 5) (y := .int (Int32.ofInt 0)) (ty := .int) (ykc_36 (e := (5, .putfield 60, 0)) rfl) rfl hP4 rfl rfl rfl rfl rfl ⟨_, rfl, (by decide), (by decide)⟩ rfl (fun ph5 hP5 u5 => ?_)
  have f5_5_0 : xget ph5 5 0 = some (.int r) := (u5.2.1 5 0 (fun q => absurd q.2 (by decide))).trans f4_5_0
  have f5_5_1 : xget ph5 5 1 = some (.int c) := (u5.2.1 5 1 (fun q => absurd q.2 (by decide))).trans f4_5_1
  have f5_5_3 : xget ph5 5 3 = some (.long l) := (u5.2.1 5 3 (fun q => absurd q.2 (by decide))).trans f4_5_3
  have f5_5_4 : xget ph5 5 4 = some (.long (Int64.ofNat kG0)) := (u5.2.1 5 4 (fun q => absurd q.2 (by decide))).trans u4.1
  refine gt_alu (st' := [.int (Int32.ofInt 0)]) (ykc_36 (e := (0, .iconst 0, 0)) rfl) rfl rfl ?_
  refine gt_store (L' := [some (.ref 5), some (.int r), some (.int c), some (.long l), none, some (.int (Int32.ofInt 0)), none]) (st' := []) (n := 2) (ykc_36 (e := (3, .istore 5, 0)) rfl) rfl rfl ?_
  exact zshO hr hrn hc hcn (fun ph' a b => ⟨rfl, a, b⟩) rn 0 _ _ _ (by omega) yi0 hP5 ⟨f5_5_0, f5_5_1, f5_5_3, f5_5_4, ⟨_, u5.1, by rw [yi0, Nat.zero_mul]; rfl⟩, fun f hf => absurd hf (by omega), (fun b b5 _ _ => (u5.2.2 b b5).trans ((u4.2.2 b b5).trans ((u3.2.2 b b5).trans ((u2.2.2 b b5).trans ((u1.2.2 b b5))))))⟩
/-- the rocks told below k, as the class gathers them -/
def zrk (t : Nat → Int32) : Nat → Int64
  | 0 => Int64.ofNat kG0
  | k + 1 => if (t (2 + k)).toInt = 35 then zrk t k ||| (Int64.ofNat kG1 <<< ((Int32.ofNat k).toInt64 &&& 63)) else zrk t k
set_option maxRecDepth 6000 in
theorem zrd {ph : pm_H} (hP : xH xX kK m w ph) (hT : xget ph 1 1 = some (.int T)) (ht : T.toInt = (n : Int)) (hX : yTX ph 2 n t) {r c N : Int32} {Nn F : Nat} (hN : N.toInt = (Nn : Int)) (hN49 : Nn ≤ 49) (hF : zF n t Nn F) (kR : F < Nn → ∀ q : Int32, q.toInt = 2 + (F : Int) → Q (some (.int q)) ph) (kE : F = Nn → ∀ (x z : Option Value), xGT kK (D + 1 + 1 + 1) 34 Q (93, [some (.ref 5), some (.ref 1), some (.int r), some (.int c), some (.long (zrk t Nn)), none, some (.int N), x, z], [], ph, 0, 0)) : ∀ (q i : Nat) (x : Int32) (l : Int64) (z : Option Value), i + q = F → x = Int32.ofNat i → l = zrk t i → xGT kK (D + 1 + 1 + 1) 34 Q (35, [some (.ref 5), some (.ref 1), some (.int r), some (.int c), some (.long l), none, some (.int N), some (.int x), z], [], ph, 0, 0) := by
  obtain ⟨hFN, hgd, hend⟩ := hF
  intro q
  induction q with
  | zero =>
    intro i x l z hi hxx hl
    obtain rfl : i = F := by omega
    have hx : x.toInt = (i : Int) := by rw [hxx]; exact ynt (by omega)
    by_cases hn : i = Nn
    · refine gt_load (v := .int x) (n := 2) (ykc_34 (e := (2, .iload 7, 0)) rfl) rfl rfl ?_
      refine gt_load (v := .int N) (n := 2) (ykc_34 (e := (2, .iload 6, 0)) rfl) rfl rfl ?_
      refine gt_ige_t (ykc_34 (e := (4, .if_icmp .ge 54, 93)) rfl) (by omega) ?_
      subst hn
      rw [hl]
      exact kE rfl _ _
    · refine gt_load (v := .int x) (n := 2) (ykc_34 (e := (2, .iload 7, 0)) rfl) rfl rfl ?_
      refine gt_load (v := .int N) (n := 2) (ykc_34 (e := (2, .iload 6, 0)) rfl) rfl rfl ?_
      refine gt_ige_f (ykc_34 (e := (4, .if_icmp .ge 54, 93)) rfl) (by omega) rfl ?_
      refine gt_load (v := .ref 1) (n := 1) (ykc_34 (e := (2, .aload_n kF1, 0)) rfl) rfl rfl ?_
      refine gt_alu (st' := [.int (Int32.ofInt 2), .ref 1]) (ykc_34 (e := (0, .iconst 2, 0)) rfl) rfl rfl ?_
      refine gt_load (v := .int x) (n := 2) (ykc_34 (e := (2, .iload 7, 0)) rfl) rfl rfl ?_
      obtain ⟨p2, e_p2, h_p2⟩ : ∃ zq : Int32, (Int32.ofInt 2) + x = zq ∧ zq.toInt = 2 + x.toInt := ⟨_, rfl, by rw [ti_add (by rw [zi2]; omega) (by rw [zi2]; omega), zi2]⟩
      refine gt_alu (st' := [.int p2, .ref 1]) (ykc_34 (e := (0, .iadd, 0)) rfl) (by rw [← e_p2]; exact rfl) rfl ?_
      refine gt_ocv (A := 1) (n := 1) (as := [.ref 1, .int p2]) (r := []) (ykc_34 (e := (6, .invokevirtual 33, 0)) rfl) rfl hP rfl rfl rfl rfl rfl (zatC (D := D + 1 + 1) hP hT ht hX (k := 2 + i) (by omega)) rfl (fun vv ph1 hv => ?_)
      obtain ⟨e8, d, e9, hd⟩ := hv; subst e9; subst e8
      change xGT kK (D + 1 + 1 + 1) 34 Q (50, [some (.ref 5), some (.ref 1), some (.int r), some (.int c), some (.long l), none, some (.int N), some (.int x), z], [.int d], ph, 0, 0)
      refine gt_store (L' := [some (.ref 5), some (.ref 1), some (.int r), some (.int c), some (.long l), none, some (.int N), some (.int x), some (.int d)]) (st' := []) (n := 2) (ykc_34 (e := (3, .istore 8, 0)) rfl) rfl rfl ?_
      refine gt_load (v := .int d) (n := 2) (ykc_34 (e := (2, .iload 8, 0)) rfl) rfl rfl ?_
      refine gt_push (v := .int ((Int8.ofInt 46).toInt32)) (n := 2) (ykc_34 (e := (1, .bipush 46, 0)) rfl) rfl rfl ?_
      have hbad : ¬ zfs n t (2 + i) := by
        rcases hend with e | e
        · exact absurd e hn
        · exact e
      have hn46 : d.toInt ≠ 46 := fun q => by
        rcases hd with ⟨h1, e⟩ | ⟨-, e⟩
        · exact hbad ⟨h1, Or.inl (by rw [← e]; exact q)⟩
        · omega
      have hn35 : d.toInt ≠ 35 := fun q => by
        rcases hd with ⟨h1, e⟩ | ⟨-, e⟩
        · exact hbad ⟨h1, Or.inr (by rw [← e]; exact q)⟩
        · omega
      refine gt_ieq_f (ykc_34 (e := (4, .if_icmp .eq 15, 71)) rfl) (by rw [zb46]; exact hn46) rfl ?_
      refine gt_load (v := .int d) (n := 2) (ykc_34 (e := (2, .iload 8, 0)) rfl) rfl rfl ?_
      refine gt_push (v := .int ((Int8.ofInt 35).toInt32)) (n := 2) (ykc_34 (e := (1, .bipush 35, 0)) rfl) rfl rfl ?_
      refine gt_ieq_f (ykc_34 (e := (4, .if_icmp .eq 8, 71)) rfl) (by rw [zb35]; exact hn35) rfl ?_
      refine gt_alu (st' := [.int (Int32.ofInt 2)]) (ykc_34 (e := (0, .iconst 2, 0)) rfl) rfl rfl ?_
      refine gt_load (v := .int x) (n := 2) (ykc_34 (e := (2, .iload 7, 0)) rfl) rfl rfl ?_
      obtain ⟨p3, e_p3, h_p3⟩ : ∃ zq : Int32, (Int32.ofInt 2) + x = zq ∧ zq.toInt = 2 + x.toInt := ⟨_, rfl, by rw [ti_add (by rw [zi2]; omega) (by rw [zi2]; omega), zi2]⟩
      refine gt_alu (st' := [.int p3]) (ykc_34 (e := (0, .iadd, 0)) rfl) (by rw [← e_p3]; exact rfl) rfl ?_
      refine gt_ret (ykc_34 (e := (7, .ireturn, 0)) rfl) rfl ?_
      exact kR (by omega) _ (by omega)
  | succ q ih =>
    intro i x l z hi hxx hl
    have hx : x.toInt = (i : Int) := by rw [hxx]; exact ynt (by omega)
    refine gt_load (v := .int x) (n := 2) (ykc_34 (e := (2, .iload 7, 0)) rfl) rfl rfl ?_
    refine gt_load (v := .int N) (n := 2) (ykc_34 (e := (2, .iload 6, 0)) rfl) rfl rfl ?_
    refine gt_ige_f (ykc_34 (e := (4, .if_icmp .ge 54, 93)) rfl) (by omega) rfl ?_
    refine gt_load (v := .ref 1) (n := 1) (ykc_34 (e := (2, .aload_n kF1, 0)) rfl) rfl rfl ?_
    refine gt_alu (st' := [.int (Int32.ofInt 2), .ref 1]) (ykc_34 (e := (0, .iconst 2, 0)) rfl) rfl rfl ?_
    refine gt_load (v := .int x) (n := 2) (ykc_34 (e := (2, .iload 7, 0)) rfl) rfl rfl ?_
    obtain ⟨p2, e_p2, h_p2⟩ : ∃ zq : Int32, (Int32.ofInt 2) + x = zq ∧ zq.toInt = 2 + x.toInt := ⟨_, rfl, by rw [ti_add (by rw [zi2]; omega) (by rw [zi2]; omega), zi2]⟩
    refine gt_alu (st' := [.int p2, .ref 1]) (ykc_34 (e := (0, .iadd, 0)) rfl) (by rw [← e_p2]; exact rfl) rfl ?_
    refine gt_ocv (A := 1) (n := 1) (as := [.ref 1, .int p2]) (r := []) (ykc_34 (e := (6, .invokevirtual 33, 0)) rfl) rfl hP rfl rfl rfl rfl rfl (zatC (D := D + 1 + 1) hP hT ht hX (k := 2 + i) (by omega)) rfl (fun vv ph1 hv => ?_)
    obtain ⟨e8, d, e9, hd⟩ := hv; subst e9; subst e8
    change xGT kK (D + 1 + 1 + 1) 34 Q (50, [some (.ref 5), some (.ref 1), some (.int r), some (.int c), some (.long l), none, some (.int N), some (.int x), z], [.int d], ph, 0, 0)
    refine gt_store (L' := [some (.ref 5), some (.ref 1), some (.int r), some (.int c), some (.long l), none, some (.int N), some (.int x), some (.int d)]) (st' := []) (n := 2) (ykc_34 (e := (3, .istore 8, 0)) rfl) rfl rfl ?_
    refine gt_load (v := .int d) (n := 2) (ykc_34 (e := (2, .iload 8, 0)) rfl) rfl rfl ?_
    refine gt_push (v := .int ((Int8.ofInt 46).toInt32)) (n := 2) (ykc_34 (e := (1, .bipush 46, 0)) rfl) rfl rfl ?_
    obtain ⟨g1, g2⟩ := hgd i (by omega)
    have hdt : d = t (2 + i) := by
      rcases hd with ⟨-, e⟩ | ⟨e, -⟩
      · exact e
      · omega
    by_cases h46 : d.toInt = 46
    · refine gt_ieq_t (ykc_34 (e := (4, .if_icmp .eq 15, 71)) rfl) (by rw [zb46]; exact h46) ?_
      refine gt_load (v := .int d) (n := 2) (ykc_34 (e := (2, .iload 8, 0)) rfl) rfl rfl ?_
      refine gt_push (v := .int ((Int8.ofInt 35).toInt32)) (n := 2) (ykc_34 (e := (1, .bipush 35, 0)) rfl) rfl rfl ?_
      refine gt_ine_t (ykc_34 (e := (4, .if_icmp .ne 12, 87)) rfl) (by rw [zb35]; omega) ?_
      obtain ⟨x1, e_x1, h_x1⟩ : ∃ zq : Int32, x + Int32.ofInt 1 = zq ∧ zq.toInt = x.toInt + 1 := ⟨_, rfl, by rw [ti_add (by rw [yi1]; omega) (by rw [yi1]; omega), yi1]⟩
      refine gt_store (L' := [some (.ref 5), some (.ref 1), some (.int r), some (.int c), some (.long l), none, some (.int N), some (.int x1), some (.int d)]) (st' := []) (n := 3) (ykc_34 (e := (3, .iinc 7 1, 0)) rfl) (by rw [← e_x1]; rfl) rfl ?_
      refine gt_br (pc' := 35) (st' := []) (ykc_34 (e := (4, .goto (-55), 35)) rfl) rfl ?_
      exact ih (i + 1) _ _ _ (by omega) (by rw [← e_x1]; exact ynx hxx (by omega)) (by rw [hl]; show _ = if (t (2 + i)).toInt = 35 then _ else _; rw [if_neg (by rw [← hdt]; omega)])
    · have h35 : d.toInt = 35 := by
        rcases g2 with e | e
        · exact absurd (by rw [hdt]; exact e) h46
        · rw [hdt]; exact e
      refine gt_ieq_f (ykc_34 (e := (4, .if_icmp .eq 15, 71)) rfl) (by rw [zb46]; exact h46) rfl ?_
      refine gt_load (v := .int d) (n := 2) (ykc_34 (e := (2, .iload 8, 0)) rfl) rfl rfl ?_
      refine gt_push (v := .int ((Int8.ofInt 35).toInt32)) (n := 2) (ykc_34 (e := (1, .bipush 35, 0)) rfl) rfl rfl ?_
      refine gt_ieq_t (ykc_34 (e := (4, .if_icmp .eq 8, 71)) rfl) (by rw [zb35]; exact h35) ?_
      refine gt_load (v := .int d) (n := 2) (ykc_34 (e := (2, .iload 8, 0)) rfl) rfl rfl ?_
      refine gt_push (v := .int ((Int8.ofInt 35).toInt32)) (n := 2) (ykc_34 (e := (1, .bipush 35, 0)) rfl) rfl rfl ?_
      refine gt_ine_f (ykc_34 (e := (4, .if_icmp .ne 12, 87)) rfl) (by rw [zb35]; exact h35) rfl ?_
      refine gt_load (v := .long l) (n := 2) (ykc_34 (e := (2, .lload 4, 0)) rfl) rfl rfl ?_
      refine gt_alu (st' := [.long (Int64.ofNat kG1), .long l]) (ykc_34 (e := (0, .lconst kG1, 0)) rfl) rfl rfl ?_
      refine gt_load (v := .int x) (n := 2) (ykc_34 (e := (2, .iload 7, 0)) rfl) rfl rfl ?_
      refine gt_alu (st' := [.long ((Int64.ofNat kG1) <<< (x.toInt64 &&& 63)), .long l]) (ykc_34 (e := (0, .lshl, 0)) rfl) rfl rfl ?_
      refine gt_alu (st' := [.long (l ||| ((Int64.ofNat kG1) <<< (x.toInt64 &&& 63)))]) (ykc_34 (e := (0, .lor, 0)) rfl) rfl rfl ?_
      refine gt_store (L' := [some (.ref 5), some (.ref 1), some (.int r), some (.int c), some (.long (l ||| ((Int64.ofNat kG1) <<< (x.toInt64 &&& 63)))), none, some (.int N), some (.int x), some (.int d)]) (st' := []) (n := 2) (ykc_34 (e := (3, .lstore 4, 0)) rfl) rfl rfl ?_
      obtain ⟨x1, e_x1, h_x1⟩ : ∃ zq : Int32, x + Int32.ofInt 1 = zq ∧ zq.toInt = x.toInt + 1 := ⟨_, rfl, by rw [ti_add (by rw [yi1]; omega) (by rw [yi1]; omega), yi1]⟩
      refine gt_store (L' := [some (.ref 5), some (.ref 1), some (.int r), some (.int c), some (.long (l ||| ((Int64.ofNat kG1) <<< (x.toInt64 &&& 63)))), none, some (.int N), some (.int x1), some (.int d)]) (st' := []) (n := 3) (ykc_34 (e := (3, .iinc 7 1, 0)) rfl) (by rw [← e_x1]; rfl) rfl ?_
      refine gt_br (pc' := 35) (st' := []) (ykc_34 (e := (4, .goto (-55), 35)) rfl) rfl ?_
      exact ih (i + 1) _ _ _ (by omega) (by rw [← e_x1]; exact ynx hxx (by omega)) (by rw [hl]; show _ = if (t (2 + i)).toInt = 35 then _ else _; rw [if_pos (by rw [← hdt]; exact h35), hxx])
set_option maxRecDepth 6000 in
theorem zreadC {ph : pm_H} (hP : xH xX kK m w ph) (hT : xget ph 1 1 = some (.int T)) (ht : T.toInt = (n : Int)) (hX : yTX ph 2 n t) {F : Nat} (hF : zF n t (zsd n t 0 * zsd n t 1).toNat F) : ∃ v ph', pm_Rd kK false (D + 1 + 1 + 1 + 1) 34 [.ref 5, .ref 1] ph (v, ph', 0, 0) ∧ (xH xX kK m w ph' ∧ ∃ q : Int32, v = some (.int q) ∧ ((q.toInt = -1 - zvv n (zsd n t 0) (zsd n t 1) F ∧ zvv n (zsd n t 0) (zsd n t 1) F < 0 ∧ ph = ph') ∨ (q.toInt = -1 ∧ 0 ≤ zsd n t 0 ∧ 0 ≤ zsd n t 1 ∧ zvv n (zsd n t 0) (zsd n t 1) F = zsd n t 0 * zsd n t 1 ∧ F = (zsd n t 0 * zsd n t 1).toNat ∧ ∃ r c : Int32, r.toInt = zsd n t 0 ∧ c.toInt = zsd n t 1 ∧ zLD ph ph' r c (zrk t (zsd n t 0 * zsd n t 1).toNat) (zsd n t 1).toNat (zsd n t 0 * zsd n t 1).toNat))) := by
  have hs : ∀ p, zsd n t p = -1 ∨ (3 ≤ zsd n t p ∧ zsd n t p ≤ 7) := fun p => by
    unfold zsd
    by_cases h : p < n ∧ 51 ≤ (t p).toInt ∧ (t p).toInt ≤ 55
    · rw [if_pos h]; exact Or.inr ⟨by omega, by omega⟩
    · rw [if_neg h]; exact Or.inl rfl
  have hs0 := hs 0
  have hs1 := hs 1
  generalize hR : zsd n t 0 = R0 at *
  generalize hC : zsd n t 1 = C0 at *
  refine xRd_mk (nl := 9) rfl rfl ?_
  show xGT kK (D + 1 + 1 + 1) 34 _ (0, [some (.ref 5), some (.ref 1), none, none, none, none, none, none, none], [], ph, 0, 0)
  refine gt_load (v := .ref 1) (n := 1) (ykc_34 (e := (2, .aload_n kF1, 0)) rfl) rfl rfl ?_
  refine gt_alu (st' := [.int (Int32.ofInt 0), .ref 1]) (ykc_34 (e := (0, .iconst 0, 0)) rfl) rfl rfl ?_
  refine gt_cs (n := 2) (as := [.ref 1, .int (Int32.ofInt 0)]) (r := []) (ykc_34 (e := (6, .invokestatic 29, 0)) rfl) rfl rfl rfl rfl (zsideC (D := D) hP hT ht hX (k := 0) yi0) rfl (fun vv ph1 hv => ?_)
  obtain ⟨e8, r, e9, hr⟩ := hv; subst e9; subst e8
  change xGT kK (D + 1 + 1 + 1) 34 _ (5, [some (.ref 5), some (.ref 1), none, none, none, none, none, none, none], [.int r], ph, 0, 0)
  refine gt_store (L' := [some (.ref 5), some (.ref 1), some (.int r), none, none, none, none, none, none]) (st' := []) (n := 1) (ykc_34 (e := (3, .istore_n kF2, 0)) rfl) rfl rfl ?_
  refine gt_load (v := .int r) (n := 1) (ykc_34 (e := (2, .iload_n kF2, 0)) rfl) rfl rfl ?_
  rw [hR] at hr
  by_cases c1 : R0 < 0
  · refine gt_zge_f (ykc_34 (e := (4, .ifCond .ge 5, 12)) rfl) (by omega) rfl ?_
    refine gt_alu (st' := [.int (Int32.ofInt 0)]) (ykc_34 (e := (0, .iconst 0, 0)) rfl) rfl rfl ?_
    refine gt_ret (ykc_34 (e := (7, .ireturn, 0)) rfl) rfl ?_
    exact ⟨hP, _, rfl, Or.inl ⟨by unfold zvv; rw [if_pos c1]; decide, by unfold zvv; rw [if_pos c1]; decide, rfl⟩⟩
  · refine gt_zge_t (ykc_34 (e := (4, .ifCond .ge 5, 12)) rfl) (by omega) ?_
    refine gt_load (v := .ref 1) (n := 1) (ykc_34 (e := (2, .aload_n kF1, 0)) rfl) rfl rfl ?_
    refine gt_alu (st' := [.int (Int32.ofInt 1), .ref 1]) (ykc_34 (e := (0, .iconst 1, 0)) rfl) rfl rfl ?_
    refine gt_cs (n := 2) (as := [.ref 1, .int (Int32.ofInt 1)]) (r := []) (ykc_34 (e := (6, .invokestatic 29, 0)) rfl) rfl rfl rfl rfl (zsideC (D := D) hP hT ht hX (k := 1) yi1) rfl (fun vv ph102 hv => ?_)
    obtain ⟨e8, c, e9, hc⟩ := hv; subst e9; subst e8
    change xGT kK (D + 1 + 1 + 1) 34 _ (17, [some (.ref 5), some (.ref 1), some (.int r), none, none, none, none, none, none], [.int c], ph, 0, 0)
    refine gt_store (L' := [some (.ref 5), some (.ref 1), some (.int r), some (.int c), none, none, none, none, none]) (st' := []) (n := 1) (ykc_34 (e := (3, .istore_n kF3, 0)) rfl) rfl rfl ?_
    refine gt_load (v := .int c) (n := 1) (ykc_34 (e := (2, .iload_n kF3, 0)) rfl) rfl rfl ?_
    rw [hC] at hc
    by_cases c2 : C0 < 0
    · refine gt_zge_f (ykc_34 (e := (4, .ifCond .ge 5, 24)) rfl) (by omega) rfl ?_
      refine gt_alu (st' := [.int (Int32.ofInt 1)]) (ykc_34 (e := (0, .iconst 1, 0)) rfl) rfl rfl ?_
      refine gt_ret (ykc_34 (e := (7, .ireturn, 0)) rfl) rfl ?_
      exact ⟨hP, _, rfl, Or.inl ⟨by unfold zvv; rw [if_neg c1, if_pos c2]; decide, by unfold zvv; rw [if_neg c1, if_pos c2]; decide, rfl⟩⟩
    · have hb1 : 3 ≤ R0 ∧ R0 ≤ 7 := by rcases hs0 with h | h <;> omega
      have hb2 : 3 ≤ C0 ∧ C0 ≤ 7 := by rcases hs1 with h | h <;> omega
      obtain ⟨rn, hrn0⟩ : ∃ rn : Nat, R0 = (rn : Int) := ⟨R0.toNat, by omega⟩
      obtain ⟨cn, hcn0⟩ : ∃ cn : Nat, C0 = (cn : Int) := ⟨C0.toNat, by omega⟩
      have hrn : r.toInt = (rn : Int) := by rw [hr]; exact hrn0
      have hcn : c.toInt = (cn : Int) := by rw [hc]; exact hcn0
      have hm : R0 * C0 = ((rn * cn : Nat) : Int) := by rw [hrn0, hcn0]; rfl
      have h49 : rn * cn ≤ 49 := Nat.le_trans (Nat.mul_le_mul (show rn ≤ 7 by omega) (show cn ≤ 7 by omega)) (by decide)
      have hmi : r.toInt * c.toInt = ((rn * cn : Nat) : Int) := by rw [hr, hc]; exact hm
      have hmt : (R0 * C0).toNat = rn * cn := by rw [hm]; rfl
      rw [hmt] at hF ⊢
      refine gt_zge_t (ykc_34 (e := (4, .ifCond .ge 5, 24)) rfl) (by omega) ?_
      refine gt_alu (st' := [.long (Int64.ofNat kG0)]) (ykc_34 (e := (0, .lconst kG0, 0)) rfl) rfl rfl ?_
      refine gt_store (L' := [some (.ref 5), some (.ref 1), some (.int r), some (.int c), some (.long (Int64.ofNat kG0)), none, none, none, none]) (st' := []) (n := 2) (ykc_34 (e := (3, .lstore 4, 0)) rfl) rfl rfl ?_
      refine gt_load (v := .int r) (n := 1) (ykc_34 (e := (2, .iload_n kF2, 0)) rfl) rfl rfl ?_
      refine gt_load (v := .int c) (n := 1) (ykc_34 (e := (2, .iload_n kF3, 0)) rfl) rfl rfl ?_
      obtain ⟨N, e_N, h_N⟩ : ∃ zq : Int32, r * c = zq ∧ zq.toInt = r.toInt * c.toInt := ⟨_, rfl, by rw [ti_mul (by omega) (by omega)]⟩
      refine gt_alu (st' := [.int N]) (ykc_34 (e := (0, .imul, 0)) rfl) (by rw [← e_N]; exact rfl) rfl ?_
      refine gt_store (L' := [some (.ref 5), some (.ref 1), some (.int r), some (.int c), some (.long (Int64.ofNat kG0)), none, some (.int N), none, none]) (st' := []) (n := 2) (ykc_34 (e := (3, .istore 6, 0)) rfl) rfl rfl ?_
      refine gt_alu (st' := [.int (Int32.ofInt 0)]) (ykc_34 (e := (0, .iconst 0, 0)) rfl) rfl rfl ?_
      refine gt_store (L' := [some (.ref 5), some (.ref 1), some (.int r), some (.int c), some (.long (Int64.ofNat kG0)), none, some (.int N), some (.int (Int32.ofInt 0)), none]) (st' := []) (n := 2) (ykc_34 (e := (3, .istore 7, 0)) rfl) rfl rfl ?_
      refine zrd hP hT ht hX (Nn := rn * cn) (by omega) h49 hF (fun hlt q hq => ⟨hP, q, rfl, Or.inl ⟨?h1, ?h2, rfl⟩⟩) (fun he x z => ?h3) F 0 _ _ _ (by omega) rfl rfl
      case h1 => unfold zvv; rw [if_neg c1, if_neg c2, if_pos (by omega)]; omega
      case h2 => unfold zvv; rw [if_neg c1, if_neg c2, if_pos (by omega)]; omega
      refine gt_load (v := .ref 1) (n := 1) (ykc_34 (e := (2, .aload_n kF1, 0)) rfl) rfl rfl ?_
      refine gt_ocv (A := 1) (n := 0) (as := [.ref 1]) (r := []) (ykc_34 (e := (6, .invokevirtual 39, 0)) rfl) rfl hP rfl rfl rfl rfl rfl (yszC (D := D + 1 + 1) hP hT) rfl (fun vv ph61 hv => ?_)
      obtain ⟨e9, e8⟩ := hv; subst e9; subst e8
      change xGT kK (D + 1 + 1 + 1) 34 _ (97, [some (.ref 5), some (.ref 1), some (.int r), some (.int c), some (.long (zrk t (rn * cn))), none, some (.int N), x, z], [.int T], ph, 0, 0)
      refine gt_alu (st' := [.int (Int32.ofInt 2), .int T]) (ykc_34 (e := (0, .iconst 2, 0)) rfl) rfl rfl ?_
      refine gt_load (v := .int N) (n := 2) (ykc_34 (e := (2, .iload 6, 0)) rfl) rfl rfl ?_
      obtain ⟨p4, e_p4, h_p4⟩ : ∃ zq : Int32, (Int32.ofInt 2) + N = zq ∧ zq.toInt = 2 + N.toInt := ⟨_, rfl, by rw [ti_add (by rw [zi2]; omega) (by rw [zi2]; omega), zi2]⟩
      refine gt_alu (st' := [.int p4, .int T]) (ykc_34 (e := (0, .iadd, 0)) rfl) (by rw [← e_p4]; exact rfl) rfl ?_
      by_cases c3 : rn * cn + 2 < n
      · refine gt_ile_f (ykc_34 (e := (4, .if_icmp .le 8, 109)) rfl) (by omega) rfl ?_
        refine gt_alu (st' := [.int (Int32.ofInt 2)]) (ykc_34 (e := (0, .iconst 2, 0)) rfl) rfl rfl ?_
        refine gt_load (v := .int N) (n := 2) (ykc_34 (e := (2, .iload 6, 0)) rfl) rfl rfl ?_
        obtain ⟨p5, e_p5, h_p5⟩ : ∃ zq : Int32, (Int32.ofInt 2) + N = zq ∧ zq.toInt = 2 + N.toInt := ⟨_, rfl, by rw [ti_add (by rw [zi2]; omega) (by rw [zi2]; omega), zi2]⟩
        refine gt_alu (st' := [.int p5]) (ykc_34 (e := (0, .iadd, 0)) rfl) (by rw [← e_p5]; exact rfl) rfl ?_
        refine gt_ret (ykc_34 (e := (7, .ireturn, 0)) rfl) rfl ?_
        refine ⟨hP, _, rfl, Or.inl ⟨?_, ?_, rfl⟩⟩
        · unfold zvv; rw [if_neg c1, if_neg c2, if_neg (by omega), if_pos (by omega)]; omega
        · unfold zvv; rw [if_neg c1, if_neg c2, if_neg (by omega), if_pos (by omega)]; omega
      · refine gt_ile_t (ykc_34 (e := (4, .if_icmp .le 8, 109)) rfl) (by omega) ?_
        refine gt_load (v := .ref 5) (n := 1) (ykc_34 (e := (2, .aload_n kF0, 0)) rfl) rfl rfl ?_
        refine gt_load (v := .int r) (n := 1) (ykc_34 (e := (2, .iload_n kF2, 0)) rfl) rfl rfl ?_
        refine gt_load (v := .int c) (n := 1) (ykc_34 (e := (2, .iload_n kF3, 0)) rfl) rfl rfl ?_
        refine gt_load (v := .long (zrk t (rn * cn))) (n := 2) (ykc_34 (e := (2, .lload 4, 0)) rfl) rfl rfl ?_
        refine gt_ocv (A := 5) (n := 3) (as := [.ref 5, .int r, .int c, .long (zrk t (rn * cn))]) (r := []) (ykc_34 (e := (6, .invokevirtual 25, 0)) rfl) rfl hP rfl rfl rfl rfl rfl (zshape (D := D + 1 + 1) hrn (by omega) (by omega) hcn (by omega) (by omega) hP) rfl (fun vv ph162 hv => ?_)
        obtain ⟨e9, hPs, hL⟩ := hv; subst e9
        change xGT kK (D + 1 + 1 + 1) 34 _ (117, [some (.ref 5), some (.ref 1), some (.int r), some (.int c), some (.long (zrk t (rn * cn))), none, some (.int N), x, z], [], ph162, 0, 0)
        refine gt_alu (st' := [.int (Int32.ofInt (-1))]) (ykc_34 (e := (0, .iconst (-1), 0)) rfl) rfl rfl ?_
        refine gt_ret (ykc_34 (e := (7, .ireturn, 0)) rfl) rfl ?_
        refine ⟨hPs, _, rfl, Or.inr ⟨zm1, by omega, by omega, ?_, he, r, c, hr, hc, ?_⟩⟩
        · unfold zvv; rw [if_neg c1, if_neg c2, if_neg (by omega), if_neg (by omega)]
        · rw [show C0.toNat = cn by omega]; exact hL
end ZV
