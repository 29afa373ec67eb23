/-! LINES of digits, class and reference, by W; printed by wip/z/z1d_lines.py -/
/-- a digit below bd at p; the bounds of a LINE's digits; the FIELD at p; whether digit i of the LINE at p can stand; how many of its first i can -/
def zLd (n : Nat) (t : Nat → Nat) (bd p : Nat) : Bool := decide (p < n ∧ 48 ≤ t p ∧ t p < 48 + bd)
def zLb (R C i : Nat) : Nat := if i = 0 then R else if i = 1 then C else if i = 2 then 8 else 5
def zLf (C : Nat) (t : Nat → Nat) (p : Nat) : Nat := C * (t p - 48) + (t (p + 1) - 48)
def zLk (R C : Nat) (rk : Nat → Bool) (wd n : Nat) (t : Nat → Nat) (p i : Nat) : Bool := zLd n t (zLb R C i) (p + i) && !(decide (wd = 4 ∧ i = 1) && rk (zLf C t p))
def zLg (R C : Nat) (rk : Nat → Bool) (wd n : Nat) (t : Nat → Nat) (p : Nat) : Nat → Nat
  | 0 => 0
  | i + 1 => if zLg R C rk wd n t p i = i ∧ zLk R C rk wd n t p i = true then i + 1 else zLg R C rk wd n t p i
/-- what the reading of LINES from l on answers -/
def zLo (R C : Nat) (rk : Nat → Bool) (wd st n : Nat) (t : Nat → Nat) (room : Nat) : Nat → Nat → Int
  | 0, _ => 0
  | f + 1, l => if l = room then -1 - ((st * l : Nat) : Int) else if zLg R C rk wd n t (st * l) wd < wd then -1 - ((st * l + zLg R C rk wd n t (st * l) wd : Nat) : Int) else if st * l + wd = n then ((l + 1 : Nat) : Int) else if l = 7 ∨ t (st * l + wd) ≠ 59 then -1 - ((st * l + wd : Nat) : Int) else zLo R C rk wd st n t room f (l + 1)
def zLa (R C : Nat) (rk : Nat → Bool) (wd st n : Nat) (t : Nat → Nat) (room : Nat) : Int := if n = 0 then 0 else zLo R C rk wd st n t room 9 0
section ZLI
variable {R C wd st n room p i l : Nat} {rk : Nat → Bool} {t : Nat → Nat}
theorem zLb_b (hR : R ≤ 7) (hC : C ≤ 7) : zLb R C i ≤ 8 := by unfold zLb; (repeat' split) <;> omega
theorem zLk_0 (h : ¬ (p + i < n ∧ 48 ≤ t (p + i) ∧ t (p + i) < 48 + zLb R C i)) : zLk R C rk wd n t p i = false := by
  unfold zLk zLd
  rw [decide_eq_false h]
  rfl
theorem zLk_1 (h : p + i < n ∧ 48 ≤ t (p + i) ∧ t (p + i) < 48 + zLb R C i) (h2 : ¬ (wd = 4 ∧ i = 1) ∨ rk (zLf C t p) = false) : zLk R C rk wd n t p i = true := by
  unfold zLk zLd
  rw [decide_eq_true h]
  rcases h2 with h2 | h2
  · rw [decide_eq_false h2]; rfl
  · rw [h2, Bool.and_false]; rfl
theorem zLk_r (h : wd = 4 ∧ i = 1) (h2 : rk (zLf C t p) = true) : zLk R C rk wd n t p i = false := by
  unfold zLk
  rw [decide_eq_true h, h2]
  exact Bool.and_false _
theorem zLk_d (h : zLk R C rk wd n t p i = true) : p + i < n ∧ 48 ≤ t (p + i) ∧ t (p + i) < 48 + zLb R C i := by
  unfold zLk zLd at h
  exact of_decide_eq_true ((Bool.and_eq_true _ _).mp h).1
theorem zLg_s (h : zLg R C rk wd n t p i = i) (h2 : zLk R C rk wd n t p i = true) : zLg R C rk wd n t p (i + 1) = i + 1 := if_pos ⟨h, h2⟩
theorem zLg_f (h : zLg R C rk wd n t p i = i) (h2 : zLk R C rk wd n t p i = false) : ∀ k, zLg R C rk wd n t p (i + 1 + k) = i := by
  intro k
  induction k with
  | zero => exact (if_neg (fun q => by rw [h2] at q; exact absurd q.2 (by decide))).trans h
  | succ k ih => exact (if_neg (fun q => by have q1 : zLg R C rk wd n t p (i + 1 + k) = i + 1 + k := q.1; omega)).trans ih
theorem zLg_le : ∀ m, zLg R C rk wd n t p m ≤ m
  | 0 => Nat.le_refl 0
  | m + 1 => by
    have h := zLg_le m
    show (if zLg R C rk wd n t p m = m ∧ zLk R C rk wd n t p m = true then m + 1 else zLg R C rk wd n t p m) ≤ m + 1
    split
    · exact Nat.le_refl _
    · exact Nat.le_succ_of_le h
theorem zLg_a : ∀ {k : Nat}, zLg R C rk wd n t p k = k → ∀ i, i < k → zLk R C rk wd n t p i = true := by
  intro k
  induction k with
  | zero => intro _ i hi; omega
  | succ k ih =>
    intro h i hi
    have h1 : (if zLg R C rk wd n t p k = k ∧ zLk R C rk wd n t p k = true then k + 1 else zLg R C rk wd n t p k) = k + 1 := h
    by_cases e : zLg R C rk wd n t p k = k ∧ zLk R C rk wd n t p k = true
    · by_cases e2 : i = k
      · subst e2; exact e.2
      · exact ih e.1 i (by omega)
    · rw [if_neg e] at h1
      have h3 := @zLg_le R C wd n p rk t k
      omega
theorem zLo_u (h : l ≤ 8) : zLo R C rk wd st n t room (9 - l) l = if l = room then -1 - ((st * l : Nat) : Int) else if zLg R C rk wd n t (st * l) wd < wd then -1 - ((st * l + zLg R C rk wd n t (st * l) wd : Nat) : Int) else if st * l + wd = n then ((l + 1 : Nat) : Int) else if l = 7 ∨ t (st * l + wd) ≠ 59 then -1 - ((st * l + wd : Nat) : Int) else zLo R C rk wd st n t room (9 - (l + 1)) (l + 1) := by
  rw [show 9 - l = (8 - l) + 1 by omega, show 9 - (l + 1) = 8 - l by omega]
  rfl
theorem zLo_0 (h : l ≤ 8) (h1 : l = room) : zLo R C rk wd st n t room (9 - l) l = -1 - ((st * l : Nat) : Int) := by rw [zLo_u h, if_pos h1]
theorem zLo_1 (h : l ≤ 8) (h1 : l ≠ room) (h2 : zLg R C rk wd n t (st * l) wd < wd) : zLo R C rk wd st n t room (9 - l) l = -1 - ((st * l + zLg R C rk wd n t (st * l) wd : Nat) : Int) := by rw [zLo_u h, if_neg h1, if_pos h2]
theorem zLo_2 (h : l ≤ 8) (h1 : l ≠ room) (h2 : zLg R C rk wd n t (st * l) wd = wd) (h3 : st * l + wd = n) : zLo R C rk wd st n t room (9 - l) l = ((l + 1 : Nat) : Int) := by rw [zLo_u h, if_neg h1, if_neg (by omega), if_pos h3]
theorem zLo_3 (h : l ≤ 8) (h1 : l ≠ room) (h2 : zLg R C rk wd n t (st * l) wd = wd) (h3 : st * l + wd ≠ n) (h4 : l = 7 ∨ t (st * l + wd) ≠ 59) : zLo R C rk wd st n t room (9 - l) l = -1 - ((st * l + wd : Nat) : Int) := by rw [zLo_u h, if_neg h1, if_neg (by omega), if_neg h3, if_pos h4]
theorem zLo_4 (h : l ≤ 8) (h1 : l ≠ room) (h2 : zLg R C rk wd n t (st * l) wd = wd) (h3 : st * l + wd ≠ n) (h4 : ¬ (l = 7 ∨ t (st * l + wd) ≠ 59)) : zLo R C rk wd st n t room (9 - l) l = zLo R C rk wd st n t room (9 - (l + 1)) (l + 1) := by rw [zLo_u h, if_neg h1, if_neg (by omega), if_neg h3, if_neg h4]
theorem zLf_lt (hR3 : 0 < R) (hC3 : 0 < C) (h0 : t p < 48 + R) (h1 : t (p + 1) < 48 + C) : zLf C t p < R * C := by
  have h2 : C * (t p - 48 + 1) ≤ C * R := Nat.mul_le_mul_left C (by omega)
  rw [Nat.mul_add, Nat.mul_comm C R] at h2
  unfold zLf
  omega
theorem zLf_c (h0 : t p < 48 + R) (h1 : t (p + 1) < 48 + C) (hR3 : 0 < R) (hC3 : 0 < C) : zfa R C ((t p - 48 : Nat) : Int) ((t (p + 1) - 48 : Nat) : Int) = ((zLf C t p : Nat) : Int) := by
  unfold zfa zLf
  rw [if_pos (by omega), Int.toNat_natCast, Int.toNat_natCast, Nat.mul_comm]
end ZLI
/-- the class's bounds of FACINGS and BRIMS -/
def zBd (ph : pm_H) : Prop := zc ph 156 2 = some (.int (zn 8)) ∧ zc ph 156 3 = some (.int (zn 5))
theorem zc_tdig4 {ph : pm_H} {R C ln : Nat} {rk : Nat → Bool} {t : Nat → Nat} (hS : zSh ph) (hL : zCl ph R C rk) {l i : Nat} {x : Int32} (hl8 : l < 8) (hi : i < 4) (hw : zc ph 154 2 = some (.int (zn 4))) (hb : ∀ i, i < 4 → zc ph 156 i = some (.int (zn (zLb R C i)))) (hx : x.toInt = zDi ln t (5 * l + i)) (hpr : i = 1 → zLk R C rk 4 ln t (5 * l) 0 = true ∧ zc ph 155 (l * 4) = some (.int (zn (t (5 * l) - 48)))) : zM 55 [.ref 154, .int x, .int (zn l), .int (zn i), .ref 5] ph (fun v0 q => zFr [155] [] ph q ∧ ((zLk R C rk 4 ln t (5 * l) i = true ∧ v0 = some (.int (zI true)) ∧ zst ph q 155 (l * 4 + i) (.int (zn (t (5 * l + i) - 48)))) ∨ (zLk R C rk 4 ln t (5 * l) i = false ∧ v0 = some (.int (zI false))))) := by
  obtain ⟨Q, hQ⟩ : ∃ Q : Option Value → pm_H → Prop, Q = (fun v0 q => zFr [155] [] ph q ∧ ((zLk R C rk 4 ln t (5 * l) i = true ∧ v0 = some (.int (zI true)) ∧ zst ph q 155 (l * 4 + i) (.int (zn (t (5 * l + i) - 48)))) ∨ (zLk R C rk 4 ln t (5 * l) i = false ∧ v0 = some (.int (zI false))))) := ⟨_, rfl⟩
  rw [← hQ]
  refine zM_mk fun n D => ?_
  show zW n D 55 Q 0 [some (.ref 154), some (.int x), some (.int (zn l)), some (.int (zn i)), some (.ref 5), none, none] [] ph
  have c_0 : (Int32.ofInt 0).toInt = 0 := by decide
  have c_1 : (Int32.ofInt 1).toInt = 1 := by decide
  have c_2 : (Int32.ofInt 4).toInt = 4 := by decide
  obtain ⟨gR, gC, gN, gK, gA, hR3, hR7, hC3, hC7⟩ := hL
  have hL0 : zCl ph R C rk := ⟨gR, gC, gN, gK, gA, hR3, hR7, hC3, hC7⟩
  have hRC := zRC49 hR7 hC7
  have tl := znt (k := l) (by omega)
  have ti := znt (k := i) (by omega)
  have tw := znt (k := 4) (by omega)
  have d9 := @zDi_c ln (5 * l + i) t
  have b9 := @zLb_b R C i hR7 hC7
  have tb9 := znt (k := zLb R C i) (by omega)
  refine w_load (pc' := 1) (v := .int (zn l)) (m := 1) (ykc_55 (e := (2, .iload_n kF2, 0)) rfl) rfl rfl ?_
  refine w_load (pc' := 2) (v := .ref 154) (m := 1) (ykc_55 (e := (2, .aload_n kF0, 0)) rfl) rfl rfl ?_
  refine w_gf (pc' := 5) (v := .int (zn 4)) (ykc_55 (e := (5, .getfield 18, 0)) rfl) rfl hw rfl ?_
  have e1682 : (zn l) * (zn 4) = zn (l * 4) := zn_of (by rw [ti_mul (by rw [show (zn l).toInt = ((l : Nat) : Int) by omega, show (zn 4).toInt = ((4 : Nat) : Int) by omega]; omega) (by rw [show (zn l).toInt = ((l : Nat) : Int) by omega, show (zn 4).toInt = ((4 : Nat) : Int) by omega]; omega), show (zn l).toInt = ((l : Nat) : Int) by omega, show (zn 4).toInt = ((4 : Nat) : Int) by omega] <;> omega)
  have te1682 := znt (k := l * 4) (by omega)
  refine w_alu (pc' := 6) (st' := [.int (zn (l * 4))]) (ykc_55 (e := (0, .imul, 0)) rfl) (by rw [← e1682]; rfl) rfl ?_
  refine w_load (pc' := 7) (v := .int (zn i)) (m := 1) (ykc_55 (e := (2, .iload_n kF3, 0)) rfl) rfl rfl ?_
  have e1683 : (zn (l * 4)) + (zn i) = zn (l * 4 + i) := (zaddN (a := l * 4) (b := i) (znt (by omega)) (znt (by omega)) (by omega)) 
  have te1683 := znt (k := l * 4 + i) (by omega)
  refine w_alu (pc' := 8) (st' := [.int (zn (l * 4 + i))]) (ykc_55 (e := (0, .iadd, 0)) rfl) (by rw [← e1683]; rfl) rfl ?_
  refine w_store (pc' := 10) (L' := [some (.ref 154), some (.int x), some (.int (zn l)), some (.int (zn i)), some (.ref 5), some (.int (zn (l * 4 + i))), none]) (st' := []) (m := 2) (ykc_55 (e := (3, .istore 5, 0)) rfl) rfl rfl ?_
  refine w_load (pc' := 11) (v := .int (zn i)) (m := 1) (ykc_55 (e := (2, .iload_n kF3, 0)) rfl) rfl rfl ?_
  refine w_zlt (ykc_55 (e := (4, .ifCond .lt 27, 38)) rfl) rfl (fun q => by exfalso; omega) (fun b1684 => ?_)
  refine w_load (pc' := 15) (v := .int (zn i)) (m := 1) (ykc_55 (e := (2, .iload_n kF3, 0)) rfl) rfl rfl ?_
  refine w_load (pc' := 16) (v := .ref 154) (m := 1) (ykc_55 (e := (2, .aload_n kF0, 0)) rfl) rfl rfl ?_
  refine w_gf (pc' := 19) (v := .ref 156) (ykc_55 (e := (5, .getfield 15, 0)) rfl) rfl (zsg hS zs_154_1) rfl ?_
  have cn1685 : (Int32.ofNat 4).toInt = 4 := by decide
  refine w_aln (ykc_55 (e := (5, .arraylength, 0)) rfl) (zsl hS zl_156) rfl ?_
  refine w_ige (ykc_55 (e := (4, .if_icmp .ge 18, 38)) rfl) rfl (fun q => by exfalso; omega) (fun b1686 => ?_)
  refine w_load (pc' := 25) (v := .int (zn (l * 4 + i))) (m := 2) (ykc_55 (e := (2, .iload 5, 0)) rfl) rfl rfl ?_
  refine w_zlt (ykc_55 (e := (4, .ifCond .lt 13, 38)) rfl) rfl (fun q => by exfalso; omega) (fun b1687 => ?_)
  refine w_load (pc' := 30) (v := .int (zn (l * 4 + i))) (m := 2) (ykc_55 (e := (2, .iload 5, 0)) rfl) rfl rfl ?_
  refine w_load (pc' := 31) (v := .ref 154) (m := 1) (ykc_55 (e := (2, .aload_n kF0, 0)) rfl) rfl rfl ?_
  refine w_gf (pc' := 34) (v := .ref 155) (ykc_55 (e := (5, .getfield 11, 0)) rfl) rfl (zsg hS zs_154_0) rfl ?_
  have cn1688 : (Int32.ofNat 32).toInt = 32 := by decide
  refine w_aln (ykc_55 (e := (5, .arraylength, 0)) rfl) (zsl hS zl_155) rfl ?_
  refine w_ilt (ykc_55 (e := (4, .if_icmp .lt 5, 40)) rfl) rfl (fun b1689 => ?_) (fun q => by exfalso; omega)
  refine w_load (pc' := 41) (v := .int x) (m := 1) (ykc_55 (e := (2, .iload_n kF1, 0)) rfl) rfl rfl ?_
  refine w_zlt (ykc_55 (e := (4, .ifCond .lt 13, 54)) rfl) rfl (fun b1690 => ?_) (fun b1690 => ?_)
  · refine w_alu (pc' := 55) (st' := [.int (Int32.ofInt 0)]) (ykc_55 (e := (0, .iconst 0, 0)) rfl) rfl rfl ?_
    refine w_ret (v := (some (.int (Int32.ofInt 0)))) (ykc_55 (e := (7, .ireturn, 0)) rfl) zr_z ?_
    rw [hQ, zi0]
    exact ⟨zFr_refl, Or.inr ⟨zLk_0 (by omega), rfl⟩⟩
  · refine w_load (pc' := 45) (v := .int x) (m := 1) (ykc_55 (e := (2, .iload_n kF1, 0)) rfl) rfl rfl ?_
    refine w_load (pc' := 46) (v := .ref 154) (m := 1) (ykc_55 (e := (2, .aload_n kF0, 0)) rfl) rfl rfl ?_
    refine w_gf (pc' := 49) (v := .ref 156) (ykc_55 (e := (5, .getfield 15, 0)) rfl) rfl (zsg hS zs_154_1) rfl ?_
    refine w_load (pc' := 50) (v := .int (zn i)) (m := 1) (ykc_55 (e := (2, .iload_n kF3, 0)) rfl) rfl rfl ?_
    refine w_ialk (pc' := 51) (k := i) (ykc_55 (e := (5, .iaload, 0)) rfl) (hb i (by omega)) (by omega) rfl ?_
    refine w_ilt (ykc_55 (e := (4, .if_icmp .lt 5, 56)) rfl) rfl (fun b1691 => ?_) (fun b1691 => ?_)
    · have ex : x = zn (t (5 * l + i) - 48) := zn_of (by omega)
      refine w_load (pc' := 57) (v := .ref 154) (m := 1) (ykc_55 (e := (2, .aload_n kF0, 0)) rfl) rfl rfl ?_
      refine w_gf (pc' := 60) (v := .ref 155) (ykc_55 (e := (5, .getfield 11, 0)) rfl) rfl (zsg hS zs_154_0) rfl ?_
      refine w_load (pc' := 62) (v := .int (zn (l * 4 + i))) (m := 2) (ykc_55 (e := (2, .iload 5, 0)) rfl) rfl rfl ?_
      refine w_load (pc' := 63) (v := .int x) (m := 1) (ykc_55 (e := (2, .iload_n kF1, 0)) rfl) rfl rfl ?_
      refine w_ias (pc' := 64) (k := l * 4 + i) (ykc_55 (e := (5, .iastore, 0)) rfl) (by omega) rfl (fun ph1693 u1692 => ?_)
      have hu : zst ph ph1693 155 (l * 4 + i) (.int (zn (t (5 * l + i) - 48))) := by rw [← ex]; exact u1692
      refine w_load (pc' := 65) (v := .ref 154) (m := 1) (ykc_55 (e := (2, .aload_n kF0, 0)) rfl) rfl rfl ?_
      refine w_gf (pc' := 68) (v := .int (zn 4)) (ykc_55 (e := (5, .getfield 18, 0)) rfl) rfl ((u1692.2.1 154 2 (fun q => absurd q.1 (by decide))).trans hw) rfl ?_
      refine w_alu (pc' := 69) (st' := [.int (Int32.ofInt 4), .int (zn 4)]) (ykc_55 (e := (0, .iconst 4, 0)) rfl) rfl rfl ?_
      refine w_ine (ykc_55 (e := (4, .if_icmp .ne 17, 86)) rfl) rfl (fun q => by exfalso; omega) (fun b1694 => ?_)
      refine w_load (pc' := 73) (v := .int (zn i)) (m := 1) (ykc_55 (e := (2, .iload_n kF3, 0)) rfl) rfl rfl ?_
      refine w_alu (pc' := 74) (st' := [.int (Int32.ofInt 1), .int (zn i)]) (ykc_55 (e := (0, .iconst 1, 0)) rfl) rfl rfl ?_
      refine w_ine (ykc_55 (e := (4, .if_icmp .ne 12, 86)) rfl) rfl (fun b1695 => ?_) (fun b1695 => ?_)
      · refine w_alu (pc' := 87) (st' := [.int (Int32.ofInt 0)]) (ykc_55 (e := (0, .iconst 0, 0)) rfl) rfl rfl ?_
        refine w_store (pc' := 89) (L' := [some (.ref 154), some (.int x), some (.int (zn l)), some (.int (zn i)), some (.ref 5), some (.int (zn (l * 4 + i))), some (.int (Int32.ofInt 0))]) (st' := []) (m := 2) (ykc_55 (e := (3, .istore 6, 0)) rfl) rfl rfl ?_
        refine w_load (pc' := 91) (v := .int (Int32.ofInt 0)) (m := 2) (ykc_55 (e := (2, .iload 6, 0)) rfl) rfl rfl ?_
        refine w_zeq (ykc_55 (e := (4, .ifCond .eq 26, 117)) rfl) rfl (fun b1696 => ?_) (fun q => by exfalso; omega)
        refine w_alu (pc' := 118) (st' := [.int (Int32.ofInt 1)]) (ykc_55 (e := (0, .iconst 1, 0)) rfl) rfl rfl ?_
        refine w_br (pc' := 122) (st' := [.int (Int32.ofInt 1)]) (ykc_55 (e := (4, .goto 4, 122)) rfl) rfl ?_
        refine w_ret (v := (some (.int (Int32.ofInt 1)))) (ykc_55 (e := (7, .ireturn, 0)) rfl) zr_z ?_
        rw [hQ, zi1]
        exact ⟨zFr_st u1692 (Or.inl (by simp)), Or.inl ⟨zLk_1 (by omega) (Or.inl (by omega)), rfl, hu⟩⟩
      · refine w_load (pc' := 79) (v := .int (zn (l * 4 + i))) (m := 2) (ykc_55 (e := (2, .iload 5, 0)) rfl) rfl rfl ?_
        refine w_zle (ykc_55 (e := (4, .ifCond .le 7, 86)) rfl) rfl (fun q => by exfalso; omega) (fun b1697 => ?_)
        refine w_alu (pc' := 83) (st' := [.int (Int32.ofInt 1)]) (ykc_55 (e := (0, .iconst 1, 0)) rfl) rfl rfl ?_
        refine w_br (pc' := 87) (st' := [.int (Int32.ofInt 1)]) (ykc_55 (e := (4, .goto 4, 87)) rfl) rfl ?_
        refine w_store (pc' := 89) (L' := [some (.ref 154), some (.int x), some (.int (zn l)), some (.int (zn i)), some (.ref 5), some (.int (zn (l * 4 + i))), some (.int (Int32.ofInt 1))]) (st' := []) (m := 2) (ykc_55 (e := (3, .istore 6, 0)) rfl) rfl rfl ?_
        refine w_load (pc' := 91) (v := .int (Int32.ofInt 1)) (m := 2) (ykc_55 (e := (2, .iload 6, 0)) rfl) rfl rfl ?_
        refine w_zeq (ykc_55 (e := (4, .ifCond .eq 26, 117)) rfl) rfl (fun q => by exfalso; omega) (fun b1698 => ?_)
        have i1 : i = 1 := by omega
        subst i1
        obtain ⟨hk0, hp0⟩ := hpr rfl
        have hk0 := zLk_d hk0
        rw [Nat.add_zero] at hk0
        have l0 : zLb R C 0 = R := rfl
        have l1 : zLb R C 1 = C := rfl
        have hd0 := znt (k := t (5 * l) - 48) (by omega)
        have hd1 := znt (k := t (5 * l + 1) - 48) (by omega)
        show zW n D 55 Q 94 [some (.ref 154), some (.int x), some (.int (zn l)), some (.int (zn 1)), some (.ref 5), some (.int (zn (l * 4 + 1))), some (.int (Int32.ofInt 1))] [] ph1693
        refine w_load (pc' := 96) (v := .ref 5) (m := 2) (ykc_55 (e := (2, .aload 4, 0)) rfl) rfl rfl ?_
        refine w_load (pc' := 98) (v := .ref 5) (m := 2) (ykc_55 (e := (2, .aload 4, 0)) rfl) rfl rfl ?_
        refine w_load (pc' := 99) (v := .ref 154) (m := 1) (ykc_55 (e := (2, .aload_n kF0, 0)) rfl) rfl rfl ?_
        refine w_gf (pc' := 102) (v := .ref 155) (ykc_55 (e := (5, .getfield 11, 0)) rfl) rfl ((u1692.2.1 154 0 (fun q => absurd q.1 (by decide))).trans (zsg hS zs_154_0)) rfl ?_
        refine w_load (pc' := 104) (v := .int (zn (l * 4 + 1))) (m := 2) (ykc_55 (e := (2, .iload 5, 0)) rfl) rfl rfl ?_
        refine w_alu (pc' := 105) (st' := [.int (Int32.ofInt 1), .int (zn (l * 4 + 1)), .ref 155, .ref 5, .ref 5]) (ykc_55 (e := (0, .iconst 1, 0)) rfl) rfl rfl ?_
        have e1699 : (zn (l * 4 + 1)) - (Int32.ofInt 1) = zn (l * 4) := zsubN (a := l * 4 + 1) (b := 1) (znt (by omega)) c_1 (by omega)
        have te1699 := znt (k := l * 4) (by omega)
        refine w_alu (pc' := 106) (st' := [.int (zn (l * 4)), .ref 155, .ref 5, .ref 5]) (ykc_55 (e := (0, .isub, 0)) rfl) (by show some ([.int ((zn (l * 4 + 1)) - (Int32.ofInt 1)), .ref 155, .ref 5, .ref 5] : List Value) = _; rw [e1699]) rfl ?_
        refine w_ialk (pc' := 107) (k := l * 4) (ykc_55 (e := (5, .iaload, 0)) rfl) ((u1692.2.1 155 (l * 4) (fun q => by have q2 := q.2; omega)).trans hp0) (by omega) rfl ?_
        refine w_load (pc' := 108) (v := .int x) (m := 1) (ykc_55 (e := (2, .iload_n kF1, 0)) rfl) rfl rfl ?_
        refine w_cv (as := [.ref 5, .int (zn (t (5 * l) - 48)), .int x]) (r := [.ref 5]) (ykc_55 (e := (6, .invokevirtual 47, 0)) rfl) rfl rfl rfl rfl (zc_fat (zSh_F (zFr_st u1692 (Or.inl (by simp)) : zFr [155] [] _ _) (by decide +kernel) hS) (zCl_F (zFr_st u1692 (Or.inl (by simp)) : zFr [155] [] _ _) (by simp) (by intro i hi; simp) (by simp) hL0)) (fun v1700 ph1701 hv => ?_)
        obtain ⟨rfl, zf, rfl, ef⟩ := hv
        rw [show x.toInt = ((t (5 * l + 1) - 48 : Nat) : Int) by omega, hd0, zLf_c (by omega) (by omega) (by omega) (by omega)] at ef
        have lf := zLf_lt (R := R) (C := C) (t := t) (p := 5 * l) (by omega) (by omega) (by omega) (by omega)
        show zW n D 55 Q 111 [some (.ref 154), some (.int x), some (.int (zn l)), some (.int (zn 1)), some (.ref 5), some (.int (zn (l * 4 + 1))), some (.int (Int32.ofInt 1))] [.int zf, .ref 5] ph1693
        refine w_cv (as := [.ref 5, .int zf]) (r := []) (ykc_55 (e := (6, .invokevirtual 51, 0)) rfl) rfl rfl rfl rfl (zc_rock (zSh_F (zFr_st u1692 (Or.inl (by simp)) : zFr [155] [] _ _) (by decide +kernel) hS) (zCl_F (zFr_st u1692 (Or.inl (by simp)) : zFr [155] [] _ _) (by simp) (by intro i hi; simp) (by simp) hL0) (by omega)) (fun v1702 ph1703 hv => ?_)
        obtain ⟨rfl, rfl⟩ := hv
        rw [show (decide (0 ≤ zf.toInt) && rk zf.toInt.toNat) = rk (zLf C t (5 * l)) by rw [ef, Int.toNat_natCast, decide_eq_true (by omega)]; rfl]
        show zW n D 55 Q 114 [some (.ref 154), some (.int x), some (.int (zn l)), some (.int (zn 1)), some (.ref 5), some (.int (zn (l * 4 + 1))), some (.int (Int32.ofInt 1))] [.int (zI (rk (zLf C t (5 * l))))] ph1693
        refine w_bne (ykc_55 (e := (4, .ifCond .ne 7, 121)) rfl) rfl (fun b1704 => ?_) (fun b1704 => ?_)
        · have hrk := b1704
          refine w_alu (pc' := 122) (st' := [.int (Int32.ofInt 0)]) (ykc_55 (e := (0, .iconst 0, 0)) rfl) rfl rfl ?_
          refine w_ret (v := (some (.int (Int32.ofInt 0)))) (ykc_55 (e := (7, .ireturn, 0)) rfl) zr_z ?_
          rw [hQ, zi0]
          exact ⟨zFr_st u1692 (Or.inl (by simp)), Or.inr ⟨zLk_r ⟨rfl, by omega⟩ hrk, rfl⟩⟩
        · have hrk := b1704
          refine w_alu (pc' := 118) (st' := [.int (Int32.ofInt 1)]) (ykc_55 (e := (0, .iconst 1, 0)) rfl) rfl rfl ?_
          refine w_br (pc' := 122) (st' := [.int (Int32.ofInt 1)]) (ykc_55 (e := (4, .goto 4, 122)) rfl) rfl ?_
          refine w_ret (v := (some (.int (Int32.ofInt 1)))) (ykc_55 (e := (7, .ireturn, 0)) rfl) zr_z ?_
          rw [hQ, zi1]
          exact ⟨zFr_st u1692 (Or.inl (by simp)), Or.inl ⟨zLk_1 (by omega) (Or.inr hrk), rfl, hu⟩⟩
    · refine w_alu (pc' := 55) (st' := [.int (Int32.ofInt 0)]) (ykc_55 (e := (0, .iconst 0, 0)) rfl) rfl rfl ?_
      refine w_ret (v := (some (.int (Int32.ofInt 0)))) (ykc_55 (e := (7, .ireturn, 0)) rfl) zr_z ?_
      rw [hQ, zi0]
      exact ⟨zFr_refl, Or.inr ⟨zLk_0 (by omega), rfl⟩⟩
theorem zc_ldig4 {ph : pm_H} {l i d : Nat} {x y : Int32} (hS : zSh ph) (hw : zc ph 154 2 = some (.int (zn 4))) (hx : x.toInt = (l : Int)) (hy : y.toInt = (i : Int)) (hl : l < 8) (hi : i < 4) (hd : zc ph 155 (l * 4 + i) = some (.int (zn d))) : zM 53 [.ref 154, .int x, .int y] ph (fun v0 q => ph = q ∧ v0 = some (.int (zn d))) := by
  obtain ⟨Q, hQ⟩ : ∃ Q : Option Value → pm_H → Prop, Q = (fun v0 q => ph = q ∧ v0 = some (.int (zn d))) := ⟨_, rfl⟩
  rw [← hQ]
  refine zM_mk fun n D => ?_
  show zW n D 53 Q 0 [some (.ref 154), some (.int x), some (.int y), none] [] ph
  have c_0 : (Int32.ofInt (-1)).toInt = -1 := by decide
  have tw := znt (k := 4) (by omega)
  refine w_load (pc' := 1) (v := .int x) (m := 1) (ykc_53 (e := (2, .iload_n kF1, 0)) rfl) rfl rfl ?_
  refine w_load (pc' := 2) (v := .ref 154) (m := 1) (ykc_53 (e := (2, .aload_n kF0, 0)) rfl) rfl rfl ?_
  refine w_gf (pc' := 5) (v := .int (zn 4)) (ykc_53 (e := (5, .getfield 18, 0)) rfl) rfl hw rfl ?_
  have e1705 : x * (zn 4) = zn (l * 4) := zn_of (by rw [ti_mul (by rw [show x.toInt = ((l : Nat) : Int) by omega, show (zn 4).toInt = ((4 : Nat) : Int) by omega]; omega) (by rw [show x.toInt = ((l : Nat) : Int) by omega, show (zn 4).toInt = ((4 : Nat) : Int) by omega]; omega), show x.toInt = ((l : Nat) : Int) by omega, show (zn 4).toInt = ((4 : Nat) : Int) by omega] <;> omega)
  have te1705 := znt (k := l * 4) (by omega)
  refine w_alu (pc' := 6) (st' := [.int (zn (l * 4))]) (ykc_53 (e := (0, .imul, 0)) rfl) (by rw [← e1705]; rfl) rfl ?_
  refine w_load (pc' := 7) (v := .int y) (m := 1) (ykc_53 (e := (2, .iload_n kF2, 0)) rfl) rfl rfl ?_
  have e1706 : (zn (l * 4)) + y = zn (l * 4 + i) := (zaddN (a := l * 4) (b := i) (znt (by omega)) (by omega) (by omega)) 
  have te1706 := znt (k := l * 4 + i) (by omega)
  refine w_alu (pc' := 8) (st' := [.int (zn (l * 4 + i))]) (ykc_53 (e := (0, .iadd, 0)) rfl) (by rw [← e1706]; rfl) rfl ?_
  refine w_store (pc' := 9) (L' := [some (.ref 154), some (.int x), some (.int y), some (.int (zn (l * 4 + i)))]) (st' := []) (m := 1) (ykc_53 (e := (3, .istore_n kF3, 0)) rfl) rfl rfl ?_
  refine w_load (pc' := 10) (v := .int (zn (l * 4 + i))) (m := 1) (ykc_53 (e := (2, .iload_n kF3, 0)) rfl) rfl rfl ?_
  refine w_zlt (ykc_53 (e := (4, .ifCond .lt 21, 31)) rfl) rfl (fun q => by exfalso; omega) (fun b1707 => ?_)
  refine w_load (pc' := 14) (v := .int (zn (l * 4 + i))) (m := 1) (ykc_53 (e := (2, .iload_n kF3, 0)) rfl) rfl rfl ?_
  refine w_load (pc' := 15) (v := .ref 154) (m := 1) (ykc_53 (e := (2, .aload_n kF0, 0)) rfl) rfl rfl ?_
  refine w_gf (pc' := 18) (v := .ref 155) (ykc_53 (e := (5, .getfield 11, 0)) rfl) rfl (zsg hS zs_154_0) rfl ?_
  have cn1708 : (Int32.ofNat 32).toInt = 32 := by decide
  refine w_aln (ykc_53 (e := (5, .arraylength, 0)) rfl) (zsl hS zl_155) rfl ?_
  refine w_ige (ykc_53 (e := (4, .if_icmp .ge 12, 31)) rfl) rfl (fun q => by exfalso; omega) (fun b1709 => ?_)
  refine w_load (pc' := 23) (v := .ref 154) (m := 1) (ykc_53 (e := (2, .aload_n kF0, 0)) rfl) rfl rfl ?_
  refine w_gf (pc' := 26) (v := .ref 155) (ykc_53 (e := (5, .getfield 11, 0)) rfl) rfl (zsg hS zs_154_0) rfl ?_
  refine w_load (pc' := 27) (v := .int (zn (l * 4 + i))) (m := 1) (ykc_53 (e := (2, .iload_n kF3, 0)) rfl) rfl rfl ?_
  refine w_ialk (pc' := 28) (k := l * 4 + i) (ykc_53 (e := (5, .iaload, 0)) rfl) hd (by omega) rfl ?_
  refine w_br (pc' := 32) (st' := [.int (zn d)]) (ykc_53 (e := (4, .goto 4, 32)) rfl) rfl ?_
  refine w_ret (v := (some (.int (zn d)))) (ykc_53 (e := (7, .ireturn, 0)) rfl) (zr_v rfl) ?_
  rw [hQ]
  exact ⟨rfl, rfl⟩
theorem zc_lread4 {ph : pm_H} {R C ln : Nat} {rk : Nat → Bool} {t : Nat → Nat} (hS : zSh ph) (hL : zCl ph R C rk) (hT : zTc ph ln t) (hB : zBd ph) {zw zr : Int32} {room : Nat} (hzw : zw.toInt = 4) (hzr : zr.toInt = (room : Int)) (hroom : room ≤ 8) : zM 54 [.ref 154, .ref 1, .ref 5, .int zw, .int zr] ph (fun v0 q => zFr [155] [(154, 2), (156, 0), (156, 1)] ph q ∧ zc q 154 2 = some (.int (zn 4)) ∧ ∃ z : Int32, v0 = some (.int z) ∧ z.toInt = zLa R C rk 4 5 ln t room ∧ ∀ l : Nat, (l : Int) < zLa R C rk 4 5 ln t room → zLg R C rk 4 ln t (5 * l) 4 = 4 ∧ ∀ i, i < 4 → zc q 155 (l * 4 + i) = some (.int (zn (t (5 * l + i) - 48)))) := by
  obtain ⟨Q, hQ⟩ : ∃ Q : Option Value → pm_H → Prop, Q = (fun v0 q => zFr [155] [(154, 2), (156, 0), (156, 1)] ph q ∧ zc q 154 2 = some (.int (zn 4)) ∧ ∃ z : Int32, v0 = some (.int z) ∧ z.toInt = zLa R C rk 4 5 ln t room ∧ ∀ l : Nat, (l : Int) < zLa R C rk 4 5 ln t room → zLg R C rk 4 ln t (5 * l) 4 = 4 ∧ ∀ i, i < 4 → zc q 155 (l * 4 + i) = some (.int (zn (t (5 * l + i) - 48)))) := ⟨_, rfl⟩
  rw [← hQ]
  refine zM_mk fun n D => ?_
  show zW n D 54 Q 0 [some (.ref 154), some (.ref 1), some (.ref 5), some (.int zw), some (.int zr), none, none, none, none] [] ph
  have c_0 : ((Int8.ofInt 59).toInt32).toInt = 59 := by decide
  have c_1 : ((Int8.ofInt 8).toInt32).toInt = 8 := by decide
  have c_2 : (Int32.ofInt (-1)).toInt = -1 := by decide
  have c_3 : (Int32.ofInt 0).toInt = 0 := by decide
  have c_4 : (Int32.ofInt 1).toInt = 1 := by decide
  have hRC49 : R * C ≤ 49 := zRC49 hL.2.2.2.2.2.2.1 hL.2.2.2.2.2.2.2.2
  have hR37 : 3 ≤ R ∧ R ≤ 7 := ⟨hL.2.2.2.2.2.1, hL.2.2.2.2.2.2.1⟩
  have hC37 : 3 ≤ C ∧ C ≤ 7 := hL.2.2.2.2.2.2.2
  obtain rfl : zw = zn 4 := zn_of hzw
  have tw := znt (k := 4) (by omega)
  have tR := znt (k := R) (by omega)
  have tC := znt (k := C) (by omega)
  have hT0 := hT
  show zW n D 54 Q 0 [some (.ref 154), some (.ref 1), some (.ref 5), some (.int (zn 4)), some (.int zr), none, none, none, none] [] ph
  obtain ⟨gn, hn80, gt⟩ := hT
  have tn := znt (k := ln) (by omega)
  refine w_load (pc' := 1) (v := .ref 154) (m := 1) (ykc_54 (e := (2, .aload_n kF0, 0)) rfl) rfl rfl ?_
  refine w_load (pc' := 2) (v := .int (zn 4)) (m := 1) (ykc_54 (e := (2, .iload_n kF3, 0)) rfl) rfl rfl ?_
  refine w_pf (pc' := 5) (ykc_54 (e := (5, .putfield 18, 0)) rfl) rfl rfl (fun ph1711 u1710 => ?_)
  refine w_load (pc' := 6) (v := .ref 154) (m := 1) (ykc_54 (e := (2, .aload_n kF0, 0)) rfl) rfl rfl ?_
  refine w_gf (pc' := 9) (v := .ref 156) (ykc_54 (e := (5, .getfield 15, 0)) rfl) rfl ((u1710.2.1 154 1 (fun q => absurd q.2 (by decide))).trans (zsg hS zs_154_1)) rfl ?_
  refine w_alu (pc' := 10) (st' := [.int (Int32.ofInt 0), .ref 156]) (ykc_54 (e := (0, .iconst 0, 0)) rfl) rfl rfl ?_
  refine w_load (pc' := 11) (v := .ref 5) (m := 1) (ykc_54 (e := (2, .aload_n kF2, 0)) rfl) rfl rfl ?_
  refine w_cv (as := [.ref 5]) (r := [.int (Int32.ofInt 0), .ref 156]) (ykc_54 (e := (6, .invokevirtual 22, 0)) rfl) rfl rfl rfl rfl (zc_rows (zSh_F ((zFr_st u1710 (Or.inr (by simp))) : zFr [155] [(154, 2), (156, 0), (156, 1)] ph _) (by decide +kernel) hS) (zCl_F ((zFr_st u1710 (Or.inr (by simp))) : zFr [155] [(154, 2), (156, 0), (156, 1)] ph _) (by simp) (by intro i hi; simp <;> omega) (by simp) hL)) (fun v1712 ph1713 hv => ?_)
  obtain ⟨rfl, rfl⟩ := hv
  show zW n D 54 Q 14 [some (.ref 154), some (.ref 1), some (.ref 5), some (.int (zn 4)), some (.int zr), none, none, none, none] [.int (zn R), .int (Int32.ofInt 0), .ref 156] ph1711
  refine w_ias (pc' := 15) (k := 0) (ykc_54 (e := (5, .iastore, 0)) rfl) (by omega) rfl (fun ph1715 u1714 => ?_)
  refine w_load (pc' := 16) (v := .ref 154) (m := 1) (ykc_54 (e := (2, .aload_n kF0, 0)) rfl) rfl rfl ?_
  refine w_gf (pc' := 19) (v := .ref 156) (ykc_54 (e := (5, .getfield 15, 0)) rfl) rfl ((u1714.2.1 154 1 (fun q => absurd q.1 (by decide))).trans ((u1710.2.1 154 1 (fun q => absurd q.2 (by decide))).trans (zsg hS zs_154_1))) rfl ?_
  refine w_alu (pc' := 20) (st' := [.int (Int32.ofInt 1), .ref 156]) (ykc_54 (e := (0, .iconst 1, 0)) rfl) rfl rfl ?_
  refine w_load (pc' := 21) (v := .ref 5) (m := 1) (ykc_54 (e := (2, .aload_n kF2, 0)) rfl) rfl rfl ?_
  refine w_cv (as := [.ref 5]) (r := [.int (Int32.ofInt 1), .ref 156]) (ykc_54 (e := (6, .invokevirtual 28, 0)) rfl) rfl rfl rfl rfl (zc_cols (zSh_F ((zFr_trans (zFr_st u1710 (Or.inr (by simp))) (zFr_st u1714 (Or.inr (by simp)))) : zFr [155] [(154, 2), (156, 0), (156, 1)] ph _) (by decide +kernel) hS) (zCl_F ((zFr_trans (zFr_st u1710 (Or.inr (by simp))) (zFr_st u1714 (Or.inr (by simp)))) : zFr [155] [(154, 2), (156, 0), (156, 1)] ph _) (by simp) (by intro i hi; simp <;> omega) (by simp) hL)) (fun v1716 ph1717 hv => ?_)
  obtain ⟨rfl, rfl⟩ := hv
  show zW n D 54 Q 24 [some (.ref 154), some (.ref 1), some (.ref 5), some (.int (zn 4)), some (.int zr), none, none, none, none] [.int (zn C), .int (Int32.ofInt 1), .ref 156] ph1715
  refine w_ias (pc' := 25) (k := 1) (ykc_54 (e := (5, .iastore, 0)) rfl) (by omega) rfl (fun ph1719 u1718 => ?_)
  refine w_load (pc' := 26) (v := .ref 1) (m := 1) (ykc_54 (e := (2, .aload_n kF1, 0)) rfl) rfl rfl ?_
  refine w_cv (as := [.ref 1]) (r := []) (ykc_54 (e := (6, .invokevirtual 31, 0)) rfl) rfl rfl rfl rfl (zc_tsize ((u1718.2.1 1 1 (fun q => absurd q.1 (by decide))).trans ((u1714.2.1 1 1 (fun q => absurd q.1 (by decide))).trans ((u1710.2.1 1 1 (fun q => absurd q.1 (by decide))).trans gn)))) (fun v1720 ph1721 hv => ?_)
  obtain ⟨rfl, rfl⟩ := hv
  show zW n D 54 Q 29 [some (.ref 154), some (.ref 1), some (.ref 5), some (.int (zn 4)), some (.int zr), none, none, none, none] [.int (zn ln)] ph1719
  refine w_store (pc' := 31) (L' := [some (.ref 154), some (.ref 1), some (.ref 5), some (.int (zn 4)), some (.int zr), some (.int (zn ln)), none, none, none]) (st' := []) (m := 2) (ykc_54 (e := (3, .istore 5, 0)) rfl) rfl rfl ?_
  refine w_load (pc' := 33) (v := .int (zn ln)) (m := 2) (ykc_54 (e := (2, .iload 5, 0)) rfl) rfl rfl ?_
  refine w_zne (ykc_54 (e := (4, .ifCond .ne 5, 38)) rfl) rfl (fun b1722 => ?_) (fun b1722 => ?_)
  · refine w_alu (pc' := 39) (st' := [.int (Int32.ofInt 0)]) (ykc_54 (e := (0, .iconst 0, 0)) rfl) rfl rfl ?_
    refine w_store (pc' := 41) (L' := [some (.ref 154), some (.ref 1), some (.ref 5), some (.int (zn 4)), some (.int zr), some (.int (zn ln)), some (.int (Int32.ofInt 0)), none, none]) (st' := []) (m := 2) (ykc_54 (e := (3, .istore 6, 0)) rfl) rfl rfl ?_
    refine w_alu (pc' := 42) (st' := [.int (Int32.ofInt 0)]) (ykc_54 (e := (0, .iconst 0, 0)) rfl) rfl rfl ?_
    refine w_store (pc' := 44) (L' := [some (.ref 154), some (.ref 1), some (.ref 5), some (.int (zn 4)), some (.int zr), some (.int (zn ln)), some (.int (Int32.ofInt 0)), some (.int (Int32.ofInt 0)), none]) (st' := []) (m := 2) (ykc_54 (e := (3, .istore 7, 0)) rfl) rfl rfl ?_
    have f1 : zFr [155] [(154, 2), (156, 0), (156, 1)] ph ph1719 := (zFr_trans (zFr_trans (zFr_st u1710 (Or.inr (by simp))) (zFr_st u1714 (Or.inr (by simp)))) (zFr_st u1718 (Or.inr (by simp))))
    have h1542 := ((u1718.2.1 154 2 (fun q => absurd q.1 (by decide))).trans ((u1714.2.1 154 2 (fun q => absurd q.1 (by decide))).trans u1710.1))
    have h1560 := ((u1718.2.1 156 0 (fun q => absurd q.2 (by decide))).trans u1714.1)
    have h1561 := u1718.1
    have e0 : zLa R C rk 4 5 ln t room = zLo R C rk 4 5 ln t room 9 0 := if_neg (by omega)
    have hb1 : ∀ i, i < 4 → zc ph1719 156 i = some (.int (zn (zLb R C i))) := fun i hi => by
      rcases (show i = 0 ∨ i = 1 ∨ i = 2 ∨ i = 3 by omega) with e | e | e | e <;> subst e
      · exact h1560
      · exact h1561
      · exact (f1.1 156 2 (by decide) (by decide)).trans hB.1
      · exact (f1.1 156 3 (by decide) (by decide)).trans hB.2
    have hl : ∀ (n : Nat), ∀ (l : Nat) (x8 : Option Value) (ph2 : pm_H), (l ≤ 7) → (l ≤ room) → (zFr [155] [] ph1719 ph2) → (zLa R C rk 4 5 ln t room = zLo R C rk 4 5 ln t room (9 - l) l) → (∀ j, j < l → zLg R C rk 4 ln t (5 * j) 4 = 4 ∧ ∀ i, i < 4 → zc ph2 155 (j * 4 + i) = some (.int (zn (t (5 * j + i) - 48)))) → zW n D 54 Q 44 [some (.ref 154), some (.ref 1), some (.ref 5), some (.int (zn 4)), some (.int zr), some (.int (zn ln)), some (.int (zn (5 * l))), some (.int (zn l)), x8] [] ph2 := by
      intro n
      induction n using Nat.strongRecOn with
      | ind n ih =>
        intro l x8 ph2 hl hlm hf ha hg
        have tl := znt (k := l) (by omega)
        have tsl := znt (k := 5 * l) (by omega)
        have f2 : zFr [155] [(154, 2), (156, 0), (156, 1)] ph ph2 := zFr_trans f1 (zFr_mono hf (by simp) (by simp))
        have hS2 := zSh_F f2 (by decide +kernel) hS
        have hL2 := zCl_F f2 (by simp) (by intro i hi; simp <;> omega) (by simp) hL
        have hT2 := zTc_F f2 (by simp) (by simp) (by simp) hT0
        have hin : l ≠ room → ∀ (n1 : Nat), n1 ≤ n → ∀ (i : Nat) (ph2 : pm_H), i ≤ 4 → (zFr [155] [] ph1719 ph2) → (∀ j, j < l → zLg R C rk 4 ln t (5 * j) 4 = 4 ∧ ∀ i, i < 4 → zc ph2 155 (j * 4 + i) = some (.int (zn (t (5 * j + i) - 48)))) → (zLg R C rk 4 ln t (5 * l) i = i) → (∀ k, k < i → zc ph2 155 (l * 4 + k) = some (.int (zn (t (5 * l + k) - 48)))) → zW n1 D 54 Q 61 [some (.ref 154), some (.ref 1), some (.ref 5), some (.int (zn 4)), some (.int zr), some (.int (zn ln)), some (.int (zn (5 * l + i))), some (.int (zn l)), some (.int (zn i))] [] ph2 := by
          intro hlr n1
          induction n1 using Nat.strongRecOn with
          | ind n1 ih1 =>
            intro hn1 i ph2 hi hf hg hgi hst
            have tl := znt (k := l) (by omega)
            have tsl := znt (k := 5 * l) (by omega)
            have f2 : zFr [155] [(154, 2), (156, 0), (156, 1)] ph ph2 := zFr_trans f1 (zFr_mono hf (by simp) (by simp))
            have hS2 := zSh_F f2 (by decide +kernel) hS
            have hL2 := zCl_F f2 (by simp) (by intro i hi; simp <;> omega) (by simp) hL
            have hT2 := zTc_F f2 (by simp) (by simp) (by simp) hT0
            have ti := znt (k := i) (by omega)
            have tsi := znt (k := 5 * l + i) (by omega)
            refine w_load (pc' := 63) (v := .int (zn i)) (m := 2) (ykc_54 (e := (2, .iload 8, 0)) rfl) rfl rfl ?_
            refine w_load (pc' := 64) (v := .ref 154) (m := 1) (ykc_54 (e := (2, .aload_n kF0, 0)) rfl) rfl rfl ?_
            refine w_gf (pc' := 67) (v := .int (zn 4)) (ykc_54 (e := (5, .getfield 18, 0)) rfl) rfl ((hf.1 154 2 (by decide) (by decide)).trans h1542) rfl ?_
            refine w_ige (ykc_54 (e := (4, .if_icmp .ge 35, 102)) rfl) rfl (fun b1723 => ?_) (fun b1723 => ?_)
            · have ei : i = 4 := by omega
              subst ei
              show zW n1 D 54 Q 102 [some (.ref 154), some (.ref 1), some (.ref 5), some (.int (zn 4)), some (.int zr), some (.int (zn ln)), some (.int (zn (5 * l + 4))), some (.int (zn l)), some (.int (zn 4))] [] ph2
              have hin9 : 5 * l + 4 ≤ ln := by have h := zLk_d (zLg_a hgi (4 - 1) (by omega)); omega
              refine w_load (pc' := 104) (v := .int (zn (5 * l + 4))) (m := 2) (ykc_54 (e := (2, .iload 6, 0)) rfl) rfl rfl ?_
              refine w_load (pc' := 106) (v := .int (zn ln)) (m := 2) (ykc_54 (e := (2, .iload 5, 0)) rfl) rfl rfl ?_
              refine w_ine (ykc_54 (e := (4, .if_icmp .ne 8, 114)) rfl) rfl (fun b1724 => ?_) (fun b1724 => ?_)
              · refine w_load (pc' := 116) (v := .int (zn l)) (m := 2) (ykc_54 (e := (2, .iload 7, 0)) rfl) rfl rfl ?_
                refine w_alu (pc' := 117) (st' := [.int (Int32.ofInt 1), .int (zn l)]) (ykc_54 (e := (0, .iconst 1, 0)) rfl) rfl rfl ?_
                have e1725 : (zn l) + (Int32.ofInt 1) = zn (l + 1) := (zaddN (a := l) (b := 1) (znt (by omega)) c_4 (by omega)) 
                have te1725 := znt (k := l + 1) (by omega)
                refine w_alu (pc' := 118) (st' := [.int (zn (l + 1))]) (ykc_54 (e := (0, .iadd, 0)) rfl) (by rw [← e1725]; rfl) rfl ?_
                refine w_push (pc' := 120) (v := .int ((Int8.ofInt 8).toInt32)) (m := 2) (ykc_54 (e := (1, .bipush 8, 0)) rfl) rfl rfl ?_
                refine w_ieq (ykc_54 (e := (4, .if_icmp .eq 14, 134)) rfl) rfl (fun b1726 => ?_) (fun b1726 => ?_)
                · refine w_alu (pc' := 135) (st' := [.int (Int32.ofInt (-1))]) (ykc_54 (e := (0, .iconst (-1), 0)) rfl) rfl rfl ?_
                  refine w_load (pc' := 137) (v := .int (zn (5 * l + 4))) (m := 2) (ykc_54 (e := (2, .iload 6, 0)) rfl) rfl rfl ?_
                  obtain ⟨z1727, e_z1727, h_z1727⟩ : ∃ zq : Int32, (Int32.ofInt (-1)) - (zn (5 * l + 4)) = zq ∧ zq.toInt = (-1 : Int) - ((5 * l + 4 : Nat) : Int) := ⟨_, rfl, zm1sub (by omega) (by omega) (by omega)⟩
                  refine w_alu (pc' := 138) (st' := [.int z1727]) (ykc_54 (e := (0, .isub, 0)) rfl) (by rw [← e_z1727]; rfl) rfl ?_
                  refine w_ret (v := (some (.int z1727))) (ykc_54 (e := (7, .ireturn, 0)) rfl) (zr_v rfl) ?_
                  have h8 := ha.trans (zLo_3 (by omega) hlr hgi (by omega) (by omega))
                  rw [hQ]
                  refine ⟨f2, (hf.1 154 2 (by decide) (by decide)).trans h1542, _, rfl, ?_, ?_⟩
                  · rw [h8]; omega
                  · intro j hj
                    rw [h8] at hj
                    exact absurd hj (by omega)
                · refine w_load (pc' := 124) (v := .ref 1) (m := 1) (ykc_54 (e := (2, .aload_n kF1, 0)) rfl) rfl rfl ?_
                  refine w_load (pc' := 126) (v := .int (zn (5 * l + 4))) (m := 2) (ykc_54 (e := (2, .iload 6, 0)) rfl) rfl rfl ?_
                  refine w_cv (as := [.ref 1, .int (zn (5 * l + 4))]) (r := []) (ykc_54 (e := (6, .invokevirtual 44, 0)) rfl) rfl rfl rfl rfl (zc_at hS2 hT2 (k := 5 * l + 4) (by omega)) (fun v1728 ph1729 hv => ?_)
                  obtain ⟨rfl, xa, rfl, exa⟩ := hv
                  have da := @zTi_c ln (5 * l + 4) t
                  have ba := @zTi_b ln (5 * l + 4) t (fun h => (gt _ h).2)
                  show zW n1 D 54 Q 129 [some (.ref 154), some (.ref 1), some (.ref 5), some (.int (zn 4)), some (.int zr), some (.int (zn ln)), some (.int (zn (5 * l + 4))), some (.int (zn l)), some (.int (zn 4))] [.int xa] ph2
                  refine w_push (pc' := 131) (v := .int ((Int8.ofInt 59).toInt32)) (m := 2) (ykc_54 (e := (1, .bipush 59, 0)) rfl) rfl rfl ?_
                  refine w_ieq (ykc_54 (e := (4, .if_icmp .eq 8, 139)) rfl) rfl (fun b1730 => ?_) (fun b1730 => ?_)
                  · have e1731 : (zn (5 * l + 4)) + Int32.ofInt 1 = zn (5 * l + 4 + 1) := (zaddN (a := 5 * l + 4) (b := 1) (znt (by omega)) c_4 (by omega))
                    have te1731 := znt (k := 5 * l + 4 + 1) (by omega)
                    refine w_store (pc' := 142) (L' := [some (.ref 154), some (.ref 1), some (.ref 5), some (.int (zn 4)), some (.int zr), some (.int (zn ln)), some (.int (zn (5 * l + 4 + 1))), some (.int (zn l)), some (.int (zn 4))]) (st' := []) (m := 3) (ykc_54 (e := (3, .iinc 6 1, 0)) rfl) (by rw [← e1731]; rfl) rfl ?_
                    have e1732 : (zn l) + Int32.ofInt 1 = zn (l + 1) := (zaddN (a := l) (b := 1) (znt (by omega)) c_4 (by omega))
                    have te1732 := znt (k := l + 1) (by omega)
                    refine w_store (pc' := 145) (L' := [some (.ref 154), some (.ref 1), some (.ref 5), some (.int (zn 4)), some (.int zr), some (.int (zn ln)), some (.int (zn (5 * l + 4 + 1))), some (.int (zn (l + 1))), some (.int (zn 4))]) (st' := []) (m := 3) (ykc_54 (e := (3, .iinc 7 1, 0)) rfl) (by rw [← e1732]; rfl) rfl ?_
                    refine w_gb (ykc_54 (e := (4, .goto (-101), 44)) rfl) (fun k1733 hk1733 => ?_)
                    have h8 := ha.trans (zLo_4 (by omega) hlr hgi (by omega) (by omega))
                    rw [show 5 * l + 4 + 1 = 5 * (l + 1) by omega]
                    exact ih k1733 (by omega) (l + 1) _ ph2 (by omega) (by omega) hf h8 (fun j hj => by
                      by_cases e : j = l
                      · subst e; exact ⟨hgi, hst⟩
                      · exact hg j (by omega))
                  · refine w_alu (pc' := 135) (st' := [.int (Int32.ofInt (-1))]) (ykc_54 (e := (0, .iconst (-1), 0)) rfl) rfl rfl ?_
                    refine w_load (pc' := 137) (v := .int (zn (5 * l + 4))) (m := 2) (ykc_54 (e := (2, .iload 6, 0)) rfl) rfl rfl ?_
                    obtain ⟨z1734, e_z1734, h_z1734⟩ : ∃ zq : Int32, (Int32.ofInt (-1)) - (zn (5 * l + 4)) = zq ∧ zq.toInt = (-1 : Int) - ((5 * l + 4 : Nat) : Int) := ⟨_, rfl, zm1sub (by omega) (by omega) (by omega)⟩
                    refine w_alu (pc' := 138) (st' := [.int z1734]) (ykc_54 (e := (0, .isub, 0)) rfl) (by rw [← e_z1734]; rfl) rfl ?_
                    refine w_ret (v := (some (.int z1734))) (ykc_54 (e := (7, .ireturn, 0)) rfl) (zr_v rfl) ?_
                    have h8 := ha.trans (zLo_3 (by omega) hlr hgi (by omega) (by omega))
                    rw [hQ]
                    refine ⟨f2, (hf.1 154 2 (by decide) (by decide)).trans h1542, _, rfl, ?_, ?_⟩
                    · rw [h8]; omega
                    · intro j hj
                      rw [h8] at hj
                      exact absurd hj (by omega)
              · refine w_load (pc' := 111) (v := .int (zn l)) (m := 2) (ykc_54 (e := (2, .iload 7, 0)) rfl) rfl rfl ?_
                refine w_alu (pc' := 112) (st' := [.int (Int32.ofInt 1), .int (zn l)]) (ykc_54 (e := (0, .iconst 1, 0)) rfl) rfl rfl ?_
                have e1735 : (zn l) + (Int32.ofInt 1) = zn (l + 1) := (zaddN (a := l) (b := 1) (znt (by omega)) c_4 (by omega)) 
                have te1735 := znt (k := l + 1) (by omega)
                refine w_alu (pc' := 113) (st' := [.int (zn (l + 1))]) (ykc_54 (e := (0, .iadd, 0)) rfl) (by rw [← e1735]; rfl) rfl ?_
                refine w_ret (v := (some (.int (zn (l + 1))))) (ykc_54 (e := (7, .ireturn, 0)) rfl) (zr_v rfl) ?_
                have h8 := ha.trans (zLo_2 (by omega) hlr hgi (by omega))
                rw [hQ]
                refine ⟨f2, (hf.1 154 2 (by decide) (by decide)).trans h1542, _, rfl, ?_, ?_⟩
                · rw [h8]; omega
                · intro j hj
                  rw [h8] at hj
                  by_cases e : j = l
                  · subst e; exact ⟨hgi, hst⟩
                  · exact hg j (by omega)
              
            · refine w_load (pc' := 71) (v := .ref 154) (m := 1) (ykc_54 (e := (2, .aload_n kF0, 0)) rfl) rfl rfl ?_
              refine w_load (pc' := 72) (v := .ref 1) (m := 1) (ykc_54 (e := (2, .aload_n kF1, 0)) rfl) rfl rfl ?_
              refine w_load (pc' := 74) (v := .int (zn (5 * l + i))) (m := 2) (ykc_54 (e := (2, .iload 6, 0)) rfl) rfl rfl ?_
              refine w_cv (as := [.ref 1, .int (zn (5 * l + i))]) (r := [.ref 154]) (ykc_54 (e := (6, .invokevirtual 36, 0)) rfl) rfl rfl rfl rfl (zc_digit hS2 hT2 (k := 5 * l + i) (by omega)) (fun v1737 ph1738 hv => ?_)
              obtain ⟨rfl, xd, rfl, exd⟩ := hv
              show zW n1 D 54 Q 77 [some (.ref 154), some (.ref 1), some (.ref 5), some (.int (zn 4)), some (.int zr), some (.int (zn ln)), some (.int (zn (5 * l + i))), some (.int (zn l)), some (.int (zn i))] [.int xd, .ref 154] ph2
              refine w_load (pc' := 79) (v := .int (zn l)) (m := 2) (ykc_54 (e := (2, .iload 7, 0)) rfl) rfl rfl ?_
              refine w_load (pc' := 81) (v := .int (zn i)) (m := 2) (ykc_54 (e := (2, .iload 8, 0)) rfl) rfl rfl ?_
              refine w_load (pc' := 82) (v := .ref 5) (m := 1) (ykc_54 (e := (2, .aload_n kF2, 0)) rfl) rfl rfl ?_
              refine w_cv (as := [.ref 154, .int xd, .int (zn l), .int (zn i), .ref 5]) (r := []) (ykc_54 (e := (6, .invokevirtual 40, 0)) rfl) rfl rfl rfl rfl (zc_tdig4 hS2 hL2 (by omega) (by omega) ((hf.1 154 2 (by decide) (by decide)).trans h1542) (fun i hi => (hf.1 156 i (by decide) (by simp)).trans (hb1 i hi)) exd (fun e => by subst e; exact ⟨zLg_a hgi 0 (by omega), by have h := hst 0 (by omega); simpa using h⟩)) (fun v1739 ph1740 hv => ?_)
              rcases hv with ⟨ftd, ⟨hk9, rfl, htd⟩ | ⟨hk9, rfl⟩⟩
              · show zW n1 D 54 Q 85 [some (.ref 154), some (.ref 1), some (.ref 5), some (.int (zn 4)), some (.int zr), some (.int (zn ln)), some (.int (zn (5 * l + i))), some (.int (zn l)), some (.int (zn i))] [.int (zI true)] ph1740
                refine w_bne (ykc_54 (e := (4, .ifCond .ne 8, 93)) rfl) rfl (fun b1741 => ?_) (fun q => absurd q (by decide))
                have e1742 : (zn (5 * l + i)) + Int32.ofInt 1 = zn (5 * l + i + 1) := (zaddN (a := 5 * l + i) (b := 1) (znt (by omega)) c_4 (by omega))
                have te1742 := znt (k := 5 * l + i + 1) (by omega)
                refine w_store (pc' := 96) (L' := [some (.ref 154), some (.ref 1), some (.ref 5), some (.int (zn 4)), some (.int zr), some (.int (zn ln)), some (.int (zn (5 * l + i + 1))), some (.int (zn l)), some (.int (zn i))]) (st' := []) (m := 3) (ykc_54 (e := (3, .iinc 6 1, 0)) rfl) (by rw [← e1742]; rfl) rfl ?_
                have e1743 : (zn i) + Int32.ofInt 1 = zn (i + 1) := (zaddN (a := i) (b := 1) (znt (by omega)) c_4 (by omega))
                have te1743 := znt (k := i + 1) (by omega)
                refine w_store (pc' := 99) (L' := [some (.ref 154), some (.ref 1), some (.ref 5), some (.int (zn 4)), some (.int zr), some (.int (zn ln)), some (.int (zn (5 * l + i + 1))), some (.int (zn l)), some (.int (zn (i + 1)))]) (st' := []) (m := 3) (ykc_54 (e := (3, .iinc 8 1, 0)) rfl) (by rw [← e1743]; rfl) rfl ?_
                refine w_gb (ykc_54 (e := (4, .goto (-38), 61)) rfl) (fun k1744 hk1744 => ?_)
                exact ih1 k1744 hk1744 (by omega) (i + 1) _ (by omega) (zFr_trans hf ftd) (fun j hj => ⟨(hg j hj).1, fun k hk9 => (htd.2.1 155 (j * 4 + k) (fun q => by have q2 := q.2; omega)).trans ((hg j hj).2 k hk9)⟩) (zLg_s hgi hk9) (fun k hk => by
                  by_cases e : k = i
                  · subst e; exact htd.1
                  · exact (htd.2.1 155 (l * 4 + k) (fun q => e (by have q2 := q.2; omega))).trans (hst k (by omega)))
              · show zW n1 D 54 Q 85 [some (.ref 154), some (.ref 1), some (.ref 5), some (.int (zn 4)), some (.int zr), some (.int (zn ln)), some (.int (zn (5 * l + i))), some (.int (zn l)), some (.int (zn i))] [.int (zI false)] ph1740
                refine w_bne (ykc_54 (e := (4, .ifCond .ne 8, 93)) rfl) rfl (fun q => absurd q (by decide)) (fun b1745 => ?_)
                refine w_alu (pc' := 89) (st' := [.int (Int32.ofInt (-1))]) (ykc_54 (e := (0, .iconst (-1), 0)) rfl) rfl rfl ?_
                refine w_load (pc' := 91) (v := .int (zn (5 * l + i))) (m := 2) (ykc_54 (e := (2, .iload 6, 0)) rfl) rfl rfl ?_
                obtain ⟨z1746, e_z1746, h_z1746⟩ : ∃ zq : Int32, (Int32.ofInt (-1)) - (zn (5 * l + i)) = zq ∧ zq.toInt = (-1 : Int) - ((5 * l + i : Nat) : Int) := ⟨_, rfl, zm1sub (by omega) (by omega) (by omega)⟩
                refine w_alu (pc' := 92) (st' := [.int z1746]) (ykc_54 (e := (0, .isub, 0)) rfl) (by rw [← e_z1746]; rfl) rfl ?_
                refine w_ret (v := (some (.int z1746))) (ykc_54 (e := (7, .ireturn, 0)) rfl) (zr_v rfl) ?_
                have hlg : zLg R C rk 4 ln t (5 * l) 4 = i := by
                  have h := zLg_f hgi hk9 (4 - 1 - i)
                  rwa [show i + 1 + (4 - 1 - i) = 4 by omega] at h
                have h8 := ha.trans (zLo_1 (by omega) hlr (by omega))
                rw [hlg] at h8
                have f3 := zFr_trans f2 (zFr_mono ftd (by simp) (by simp) : zFr [155] [(154, 2), (156, 0), (156, 1)] ph2 _)
                rw [hQ]
                refine ⟨zFr_trans f2 (zFr_mono ftd (by simp) (by simp)), (ftd.1 154 2 (by decide) (by decide)).trans ((hf.1 154 2 (by decide) (by decide)).trans h1542), _, rfl, ?_, ?_⟩
                · rw [h8]; omega
                · intro j hj
                  rw [h8] at hj
                  exact absurd hj (by omega)
              
        refine w_load (pc' := 46) (v := .int (zn l)) (m := 2) (ykc_54 (e := (2, .iload 7, 0)) rfl) rfl rfl ?_
        refine w_push (pc' := 48) (v := .int ((Int8.ofInt 8).toInt32)) (m := 2) (ykc_54 (e := (1, .bipush 8, 0)) rfl) rfl rfl ?_
        refine w_ige (ykc_54 (e := (4, .if_icmp .ge 100, 148)) rfl) rfl (fun b1747 => ?_) (fun b1747 => ?_)
        · exfalso; omega
          
        · refine w_load (pc' := 53) (v := .int (zn l)) (m := 2) (ykc_54 (e := (2, .iload 7, 0)) rfl) rfl rfl ?_
          refine w_load (pc' := 55) (v := .int zr) (m := 2) (ykc_54 (e := (2, .iload 4, 0)) rfl) rfl rfl ?_
          refine w_ige (ykc_54 (e := (4, .if_icmp .ge 93, 148)) rfl) rfl (fun b1748 => ?_) (fun b1748 => ?_)
          · have hr : l = room := by omega
            refine w_alu (pc' := 149) (st' := [.int (Int32.ofInt (-1))]) (ykc_54 (e := (0, .iconst (-1), 0)) rfl) rfl rfl ?_
            refine w_load (pc' := 151) (v := .int (zn (5 * l))) (m := 2) (ykc_54 (e := (2, .iload 6, 0)) rfl) rfl rfl ?_
            obtain ⟨z1749, e_z1749, h_z1749⟩ : ∃ zq : Int32, (Int32.ofInt (-1)) - (zn (5 * l)) = zq ∧ zq.toInt = (-1 : Int) - ((5 * l : Nat) : Int) := ⟨_, rfl, zm1sub (by omega) (by omega) (by omega)⟩
            refine w_alu (pc' := 152) (st' := [.int z1749]) (ykc_54 (e := (0, .isub, 0)) rfl) (by rw [← e_z1749]; rfl) rfl ?_
            refine w_ret (v := (some (.int z1749))) (ykc_54 (e := (7, .ireturn, 0)) rfl) (zr_v rfl) ?_
            have h8 := ha.trans (zLo_0 (by omega) hr)
            rw [hQ]
            refine ⟨f2, (hf.1 154 2 (by decide) (by decide)).trans h1542, _, rfl, ?_, ?_⟩
            · rw [h8]; omega
            · intro j hj
              rw [h8] at hj
              exact absurd hj (by omega)
            
          · refine w_alu (pc' := 59) (st' := [.int (Int32.ofInt 0)]) (ykc_54 (e := (0, .iconst 0, 0)) rfl) rfl rfl ?_
            refine w_store (pc' := 61) (L' := [some (.ref 154), some (.ref 1), some (.ref 5), some (.int (zn 4)), some (.int zr), some (.int (zn ln)), some (.int (zn (5 * l))), some (.int (zn l)), some (.int (Int32.ofInt 0))]) (st' := []) (m := 2) (ykc_54 (e := (3, .istore 8, 0)) rfl) rfl rfl ?_
            exact hin (by omega) _ (Nat.le_refl _) 0 ph2 (Nat.zero_le _) hf hg rfl (fun k hk => absurd hk (Nat.not_lt_zero k))
    exact hl n 0 _ ph1719 (Nat.zero_le _) (Nat.zero_le _) zFr_refl e0 (fun j hj => absurd hj (Nat.not_lt_zero j))
  · refine w_alu (pc' := 37) (st' := [.int (Int32.ofInt 0)]) (ykc_54 (e := (0, .iconst 0, 0)) rfl) rfl rfl ?_
    refine w_ret (v := (some (.int (Int32.ofInt 0)))) (ykc_54 (e := (7, .ireturn, 0)) rfl) (zr_v rfl) ?_
    have e0 : zLa R C rk 4 5 ln t room = 0 := if_pos (by omega)
    rw [hQ]
    exact ⟨(zFr_trans (zFr_trans (zFr_st u1710 (Or.inr (by simp))) (zFr_st u1714 (Or.inr (by simp)))) (zFr_st u1718 (Or.inr (by simp)))), ((u1718.2.1 154 2 (fun q => absurd q.1 (by decide))).trans ((u1714.2.1 154 2 (fun q => absurd q.1 (by decide))).trans u1710.1)), _, rfl, by rw [e0]; omega, fun l hl => absurd hl (by rw [e0]; omega)⟩
theorem zc_tdig2 {ph : pm_H} {R C ln : Nat} {rk : Nat → Bool} {t : Nat → Nat} (hS : zSh ph) (hL : zCl ph R C rk) {l i : Nat} {x : Int32} (hl8 : l < 8) (hi : i < 2) (hw : zc ph 154 2 = some (.int (zn 2))) (hb : ∀ i, i < 2 → zc ph 156 i = some (.int (zn (zLb R C i)))) (hx : x.toInt = zDi ln t (3 * l + i)) (hpr : i = 1 → zLk R C rk 2 ln t (3 * l) 0 = true ∧ zc ph 155 (l * 2) = some (.int (zn (t (3 * l) - 48)))) : zM 55 [.ref 154, .int x, .int (zn l), .int (zn i), .ref 5] ph (fun v0 q => zFr [155] [] ph q ∧ ((zLk R C rk 2 ln t (3 * l) i = true ∧ v0 = some (.int (zI true)) ∧ zst ph q 155 (l * 2 + i) (.int (zn (t (3 * l + i) - 48)))) ∨ (zLk R C rk 2 ln t (3 * l) i = false ∧ v0 = some (.int (zI false))))) := by
  obtain ⟨Q, hQ⟩ : ∃ Q : Option Value → pm_H → Prop, Q = (fun v0 q => zFr [155] [] ph q ∧ ((zLk R C rk 2 ln t (3 * l) i = true ∧ v0 = some (.int (zI true)) ∧ zst ph q 155 (l * 2 + i) (.int (zn (t (3 * l + i) - 48)))) ∨ (zLk R C rk 2 ln t (3 * l) i = false ∧ v0 = some (.int (zI false))))) := ⟨_, rfl⟩
  rw [← hQ]
  refine zM_mk fun n D => ?_
  show zW n D 55 Q 0 [some (.ref 154), some (.int x), some (.int (zn l)), some (.int (zn i)), some (.ref 5), none, none] [] ph
  have c_0 : (Int32.ofInt 0).toInt = 0 := by decide
  have c_1 : (Int32.ofInt 1).toInt = 1 := by decide
  have c_2 : (Int32.ofInt 4).toInt = 4 := by decide
  obtain ⟨gR, gC, gN, gK, gA, hR3, hR7, hC3, hC7⟩ := hL
  have hL0 : zCl ph R C rk := ⟨gR, gC, gN, gK, gA, hR3, hR7, hC3, hC7⟩
  have hRC := zRC49 hR7 hC7
  have tl := znt (k := l) (by omega)
  have ti := znt (k := i) (by omega)
  have tw := znt (k := 2) (by omega)
  have d9 := @zDi_c ln (3 * l + i) t
  have b9 := @zLb_b R C i hR7 hC7
  have tb9 := znt (k := zLb R C i) (by omega)
  refine w_load (pc' := 1) (v := .int (zn l)) (m := 1) (ykc_55 (e := (2, .iload_n kF2, 0)) rfl) rfl rfl ?_
  refine w_load (pc' := 2) (v := .ref 154) (m := 1) (ykc_55 (e := (2, .aload_n kF0, 0)) rfl) rfl rfl ?_
  refine w_gf (pc' := 5) (v := .int (zn 2)) (ykc_55 (e := (5, .getfield 18, 0)) rfl) rfl hw rfl ?_
  have e1750 : (zn l) * (zn 2) = zn (l * 2) := zn_of (by rw [ti_mul (by rw [show (zn l).toInt = ((l : Nat) : Int) by omega, show (zn 2).toInt = ((2 : Nat) : Int) by omega]; omega) (by rw [show (zn l).toInt = ((l : Nat) : Int) by omega, show (zn 2).toInt = ((2 : Nat) : Int) by omega]; omega), show (zn l).toInt = ((l : Nat) : Int) by omega, show (zn 2).toInt = ((2 : Nat) : Int) by omega] <;> omega)
  have te1750 := znt (k := l * 2) (by omega)
  refine w_alu (pc' := 6) (st' := [.int (zn (l * 2))]) (ykc_55 (e := (0, .imul, 0)) rfl) (by rw [← e1750]; rfl) rfl ?_
  refine w_load (pc' := 7) (v := .int (zn i)) (m := 1) (ykc_55 (e := (2, .iload_n kF3, 0)) rfl) rfl rfl ?_
  have e1751 : (zn (l * 2)) + (zn i) = zn (l * 2 + i) := (zaddN (a := l * 2) (b := i) (znt (by omega)) (znt (by omega)) (by omega)) 
  have te1751 := znt (k := l * 2 + i) (by omega)
  refine w_alu (pc' := 8) (st' := [.int (zn (l * 2 + i))]) (ykc_55 (e := (0, .iadd, 0)) rfl) (by rw [← e1751]; rfl) rfl ?_
  refine w_store (pc' := 10) (L' := [some (.ref 154), some (.int x), some (.int (zn l)), some (.int (zn i)), some (.ref 5), some (.int (zn (l * 2 + i))), none]) (st' := []) (m := 2) (ykc_55 (e := (3, .istore 5, 0)) rfl) rfl rfl ?_
  refine w_load (pc' := 11) (v := .int (zn i)) (m := 1) (ykc_55 (e := (2, .iload_n kF3, 0)) rfl) rfl rfl ?_
  refine w_zlt (ykc_55 (e := (4, .ifCond .lt 27, 38)) rfl) rfl (fun q => by exfalso; omega) (fun b1752 => ?_)
  refine w_load (pc' := 15) (v := .int (zn i)) (m := 1) (ykc_55 (e := (2, .iload_n kF3, 0)) rfl) rfl rfl ?_
  refine w_load (pc' := 16) (v := .ref 154) (m := 1) (ykc_55 (e := (2, .aload_n kF0, 0)) rfl) rfl rfl ?_
  refine w_gf (pc' := 19) (v := .ref 156) (ykc_55 (e := (5, .getfield 15, 0)) rfl) rfl (zsg hS zs_154_1) rfl ?_
  have cn1753 : (Int32.ofNat 4).toInt = 4 := by decide
  refine w_aln (ykc_55 (e := (5, .arraylength, 0)) rfl) (zsl hS zl_156) rfl ?_
  refine w_ige (ykc_55 (e := (4, .if_icmp .ge 18, 38)) rfl) rfl (fun q => by exfalso; omega) (fun b1754 => ?_)
  refine w_load (pc' := 25) (v := .int (zn (l * 2 + i))) (m := 2) (ykc_55 (e := (2, .iload 5, 0)) rfl) rfl rfl ?_
  refine w_zlt (ykc_55 (e := (4, .ifCond .lt 13, 38)) rfl) rfl (fun q => by exfalso; omega) (fun b1755 => ?_)
  refine w_load (pc' := 30) (v := .int (zn (l * 2 + i))) (m := 2) (ykc_55 (e := (2, .iload 5, 0)) rfl) rfl rfl ?_
  refine w_load (pc' := 31) (v := .ref 154) (m := 1) (ykc_55 (e := (2, .aload_n kF0, 0)) rfl) rfl rfl ?_
  refine w_gf (pc' := 34) (v := .ref 155) (ykc_55 (e := (5, .getfield 11, 0)) rfl) rfl (zsg hS zs_154_0) rfl ?_
  have cn1756 : (Int32.ofNat 32).toInt = 32 := by decide
  refine w_aln (ykc_55 (e := (5, .arraylength, 0)) rfl) (zsl hS zl_155) rfl ?_
  refine w_ilt (ykc_55 (e := (4, .if_icmp .lt 5, 40)) rfl) rfl (fun b1757 => ?_) (fun q => by exfalso; omega)
  refine w_load (pc' := 41) (v := .int x) (m := 1) (ykc_55 (e := (2, .iload_n kF1, 0)) rfl) rfl rfl ?_
  refine w_zlt (ykc_55 (e := (4, .ifCond .lt 13, 54)) rfl) rfl (fun b1758 => ?_) (fun b1758 => ?_)
  · refine w_alu (pc' := 55) (st' := [.int (Int32.ofInt 0)]) (ykc_55 (e := (0, .iconst 0, 0)) rfl) rfl rfl ?_
    refine w_ret (v := (some (.int (Int32.ofInt 0)))) (ykc_55 (e := (7, .ireturn, 0)) rfl) zr_z ?_
    rw [hQ, zi0]
    exact ⟨zFr_refl, Or.inr ⟨zLk_0 (by omega), rfl⟩⟩
  · refine w_load (pc' := 45) (v := .int x) (m := 1) (ykc_55 (e := (2, .iload_n kF1, 0)) rfl) rfl rfl ?_
    refine w_load (pc' := 46) (v := .ref 154) (m := 1) (ykc_55 (e := (2, .aload_n kF0, 0)) rfl) rfl rfl ?_
    refine w_gf (pc' := 49) (v := .ref 156) (ykc_55 (e := (5, .getfield 15, 0)) rfl) rfl (zsg hS zs_154_1) rfl ?_
    refine w_load (pc' := 50) (v := .int (zn i)) (m := 1) (ykc_55 (e := (2, .iload_n kF3, 0)) rfl) rfl rfl ?_
    refine w_ialk (pc' := 51) (k := i) (ykc_55 (e := (5, .iaload, 0)) rfl) (hb i (by omega)) (by omega) rfl ?_
    refine w_ilt (ykc_55 (e := (4, .if_icmp .lt 5, 56)) rfl) rfl (fun b1759 => ?_) (fun b1759 => ?_)
    · have ex : x = zn (t (3 * l + i) - 48) := zn_of (by omega)
      refine w_load (pc' := 57) (v := .ref 154) (m := 1) (ykc_55 (e := (2, .aload_n kF0, 0)) rfl) rfl rfl ?_
      refine w_gf (pc' := 60) (v := .ref 155) (ykc_55 (e := (5, .getfield 11, 0)) rfl) rfl (zsg hS zs_154_0) rfl ?_
      refine w_load (pc' := 62) (v := .int (zn (l * 2 + i))) (m := 2) (ykc_55 (e := (2, .iload 5, 0)) rfl) rfl rfl ?_
      refine w_load (pc' := 63) (v := .int x) (m := 1) (ykc_55 (e := (2, .iload_n kF1, 0)) rfl) rfl rfl ?_
      refine w_ias (pc' := 64) (k := l * 2 + i) (ykc_55 (e := (5, .iastore, 0)) rfl) (by omega) rfl (fun ph1761 u1760 => ?_)
      have hu : zst ph ph1761 155 (l * 2 + i) (.int (zn (t (3 * l + i) - 48))) := by rw [← ex]; exact u1760
      refine w_load (pc' := 65) (v := .ref 154) (m := 1) (ykc_55 (e := (2, .aload_n kF0, 0)) rfl) rfl rfl ?_
      refine w_gf (pc' := 68) (v := .int (zn 2)) (ykc_55 (e := (5, .getfield 18, 0)) rfl) rfl ((u1760.2.1 154 2 (fun q => absurd q.1 (by decide))).trans hw) rfl ?_
      refine w_alu (pc' := 69) (st' := [.int (Int32.ofInt 4), .int (zn 2)]) (ykc_55 (e := (0, .iconst 4, 0)) rfl) rfl rfl ?_
      refine w_ine (ykc_55 (e := (4, .if_icmp .ne 17, 86)) rfl) rfl (fun b1762 => ?_) (fun q => by exfalso; omega)
      refine w_alu (pc' := 87) (st' := [.int (Int32.ofInt 0)]) (ykc_55 (e := (0, .iconst 0, 0)) rfl) rfl rfl ?_
      refine w_store (pc' := 89) (L' := [some (.ref 154), some (.int x), some (.int (zn l)), some (.int (zn i)), some (.ref 5), some (.int (zn (l * 2 + i))), some (.int (Int32.ofInt 0))]) (st' := []) (m := 2) (ykc_55 (e := (3, .istore 6, 0)) rfl) rfl rfl ?_
      refine w_load (pc' := 91) (v := .int (Int32.ofInt 0)) (m := 2) (ykc_55 (e := (2, .iload 6, 0)) rfl) rfl rfl ?_
      refine w_zeq (ykc_55 (e := (4, .ifCond .eq 26, 117)) rfl) rfl (fun b1763 => ?_) (fun q => by exfalso; omega)
      refine w_alu (pc' := 118) (st' := [.int (Int32.ofInt 1)]) (ykc_55 (e := (0, .iconst 1, 0)) rfl) rfl rfl ?_
      refine w_br (pc' := 122) (st' := [.int (Int32.ofInt 1)]) (ykc_55 (e := (4, .goto 4, 122)) rfl) rfl ?_
      refine w_ret (v := (some (.int (Int32.ofInt 1)))) (ykc_55 (e := (7, .ireturn, 0)) rfl) zr_z ?_
      rw [hQ, zi1]
      exact ⟨zFr_st u1760 (Or.inl (by simp)), Or.inl ⟨zLk_1 (by omega) (Or.inl (by omega)), rfl, hu⟩⟩
    · refine w_alu (pc' := 55) (st' := [.int (Int32.ofInt 0)]) (ykc_55 (e := (0, .iconst 0, 0)) rfl) rfl rfl ?_
      refine w_ret (v := (some (.int (Int32.ofInt 0)))) (ykc_55 (e := (7, .ireturn, 0)) rfl) zr_z ?_
      rw [hQ, zi0]
      exact ⟨zFr_refl, Or.inr ⟨zLk_0 (by omega), rfl⟩⟩
theorem zc_ldig2 {ph : pm_H} {l i d : Nat} {x y : Int32} (hS : zSh ph) (hw : zc ph 154 2 = some (.int (zn 2))) (hx : x.toInt = (l : Int)) (hy : y.toInt = (i : Int)) (hl : l < 8) (hi : i < 2) (hd : zc ph 155 (l * 2 + i) = some (.int (zn d))) : zM 53 [.ref 154, .int x, .int y] ph (fun v0 q => ph = q ∧ v0 = some (.int (zn d))) := by
  obtain ⟨Q, hQ⟩ : ∃ Q : Option Value → pm_H → Prop, Q = (fun v0 q => ph = q ∧ v0 = some (.int (zn d))) := ⟨_, rfl⟩
  rw [← hQ]
  refine zM_mk fun n D => ?_
  show zW n D 53 Q 0 [some (.ref 154), some (.int x), some (.int y), none] [] ph
  have c_0 : (Int32.ofInt (-1)).toInt = -1 := by decide
  have tw := znt (k := 2) (by omega)
  refine w_load (pc' := 1) (v := .int x) (m := 1) (ykc_53 (e := (2, .iload_n kF1, 0)) rfl) rfl rfl ?_
  refine w_load (pc' := 2) (v := .ref 154) (m := 1) (ykc_53 (e := (2, .aload_n kF0, 0)) rfl) rfl rfl ?_
  refine w_gf (pc' := 5) (v := .int (zn 2)) (ykc_53 (e := (5, .getfield 18, 0)) rfl) rfl hw rfl ?_
  have e1764 : x * (zn 2) = zn (l * 2) := zn_of (by rw [ti_mul (by rw [show x.toInt = ((l : Nat) : Int) by omega, show (zn 2).toInt = ((2 : Nat) : Int) by omega]; omega) (by rw [show x.toInt = ((l : Nat) : Int) by omega, show (zn 2).toInt = ((2 : Nat) : Int) by omega]; omega), show x.toInt = ((l : Nat) : Int) by omega, show (zn 2).toInt = ((2 : Nat) : Int) by omega] <;> omega)
  have te1764 := znt (k := l * 2) (by omega)
  refine w_alu (pc' := 6) (st' := [.int (zn (l * 2))]) (ykc_53 (e := (0, .imul, 0)) rfl) (by rw [← e1764]; rfl) rfl ?_
  refine w_load (pc' := 7) (v := .int y) (m := 1) (ykc_53 (e := (2, .iload_n kF2, 0)) rfl) rfl rfl ?_
  have e1765 : (zn (l * 2)) + y = zn (l * 2 + i) := (zaddN (a := l * 2) (b := i) (znt (by omega)) (by omega) (by omega)) 
  have te1765 := znt (k := l * 2 + i) (by omega)
  refine w_alu (pc' := 8) (st' := [.int (zn (l * 2 + i))]) (ykc_53 (e := (0, .iadd, 0)) rfl) (by rw [← e1765]; rfl) rfl ?_
  refine w_store (pc' := 9) (L' := [some (.ref 154), some (.int x), some (.int y), some (.int (zn (l * 2 + i)))]) (st' := []) (m := 1) (ykc_53 (e := (3, .istore_n kF3, 0)) rfl) rfl rfl ?_
  refine w_load (pc' := 10) (v := .int (zn (l * 2 + i))) (m := 1) (ykc_53 (e := (2, .iload_n kF3, 0)) rfl) rfl rfl ?_
  refine w_zlt (ykc_53 (e := (4, .ifCond .lt 21, 31)) rfl) rfl (fun q => by exfalso; omega) (fun b1766 => ?_)
  refine w_load (pc' := 14) (v := .int (zn (l * 2 + i))) (m := 1) (ykc_53 (e := (2, .iload_n kF3, 0)) rfl) rfl rfl ?_
  refine w_load (pc' := 15) (v := .ref 154) (m := 1) (ykc_53 (e := (2, .aload_n kF0, 0)) rfl) rfl rfl ?_
  refine w_gf (pc' := 18) (v := .ref 155) (ykc_53 (e := (5, .getfield 11, 0)) rfl) rfl (zsg hS zs_154_0) rfl ?_
  have cn1767 : (Int32.ofNat 32).toInt = 32 := by decide
  refine w_aln (ykc_53 (e := (5, .arraylength, 0)) rfl) (zsl hS zl_155) rfl ?_
  refine w_ige (ykc_53 (e := (4, .if_icmp .ge 12, 31)) rfl) rfl (fun q => by exfalso; omega) (fun b1768 => ?_)
  refine w_load (pc' := 23) (v := .ref 154) (m := 1) (ykc_53 (e := (2, .aload_n kF0, 0)) rfl) rfl rfl ?_
  refine w_gf (pc' := 26) (v := .ref 155) (ykc_53 (e := (5, .getfield 11, 0)) rfl) rfl (zsg hS zs_154_0) rfl ?_
  refine w_load (pc' := 27) (v := .int (zn (l * 2 + i))) (m := 1) (ykc_53 (e := (2, .iload_n kF3, 0)) rfl) rfl rfl ?_
  refine w_ialk (pc' := 28) (k := l * 2 + i) (ykc_53 (e := (5, .iaload, 0)) rfl) hd (by omega) rfl ?_
  refine w_br (pc' := 32) (st' := [.int (zn d)]) (ykc_53 (e := (4, .goto 4, 32)) rfl) rfl ?_
  refine w_ret (v := (some (.int (zn d)))) (ykc_53 (e := (7, .ireturn, 0)) rfl) (zr_v rfl) ?_
  rw [hQ]
  exact ⟨rfl, rfl⟩
theorem zc_lread2 {ph : pm_H} {R C ln : Nat} {rk : Nat → Bool} {t : Nat → Nat} (hS : zSh ph) (hL : zCl ph R C rk) (hT : zTc ph ln t) (hB : zBd ph) {zw zr : Int32} {room : Nat} (hzw : zw.toInt = 2) (hzr : zr.toInt = (room : Int)) (hroom : room ≤ 8) : zM 54 [.ref 154, .ref 1, .ref 5, .int zw, .int zr] ph (fun v0 q => zFr [155] [(154, 2), (156, 0), (156, 1)] ph q ∧ zc q 154 2 = some (.int (zn 2)) ∧ ∃ z : Int32, v0 = some (.int z) ∧ z.toInt = zLa R C rk 2 3 ln t room ∧ ∀ l : Nat, (l : Int) < zLa R C rk 2 3 ln t room → zLg R C rk 2 ln t (3 * l) 2 = 2 ∧ ∀ i, i < 2 → zc q 155 (l * 2 + i) = some (.int (zn (t (3 * l + i) - 48)))) := by
  obtain ⟨Q, hQ⟩ : ∃ Q : Option Value → pm_H → Prop, Q = (fun v0 q => zFr [155] [(154, 2), (156, 0), (156, 1)] ph q ∧ zc q 154 2 = some (.int (zn 2)) ∧ ∃ z : Int32, v0 = some (.int z) ∧ z.toInt = zLa R C rk 2 3 ln t room ∧ ∀ l : Nat, (l : Int) < zLa R C rk 2 3 ln t room → zLg R C rk 2 ln t (3 * l) 2 = 2 ∧ ∀ i, i < 2 → zc q 155 (l * 2 + i) = some (.int (zn (t (3 * l + i) - 48)))) := ⟨_, rfl⟩
  rw [← hQ]
  refine zM_mk fun n D => ?_
  show zW n D 54 Q 0 [some (.ref 154), some (.ref 1), some (.ref 5), some (.int zw), some (.int zr), none, none, none, none] [] ph
  have c_0 : ((Int8.ofInt 59).toInt32).toInt = 59 := by decide
  have c_1 : ((Int8.ofInt 8).toInt32).toInt = 8 := by decide
  have c_2 : (Int32.ofInt (-1)).toInt = -1 := by decide
  have c_3 : (Int32.ofInt 0).toInt = 0 := by decide
  have c_4 : (Int32.ofInt 1).toInt = 1 := by decide
  have hRC49 : R * C ≤ 49 := zRC49 hL.2.2.2.2.2.2.1 hL.2.2.2.2.2.2.2.2
  have hR37 : 3 ≤ R ∧ R ≤ 7 := ⟨hL.2.2.2.2.2.1, hL.2.2.2.2.2.2.1⟩
  have hC37 : 3 ≤ C ∧ C ≤ 7 := hL.2.2.2.2.2.2.2
  obtain rfl : zw = zn 2 := zn_of hzw
  have tw := znt (k := 2) (by omega)
  have tR := znt (k := R) (by omega)
  have tC := znt (k := C) (by omega)
  have hT0 := hT
  show zW n D 54 Q 0 [some (.ref 154), some (.ref 1), some (.ref 5), some (.int (zn 2)), some (.int zr), none, none, none, none] [] ph
  obtain ⟨gn, hn80, gt⟩ := hT
  have tn := znt (k := ln) (by omega)
  refine w_load (pc' := 1) (v := .ref 154) (m := 1) (ykc_54 (e := (2, .aload_n kF0, 0)) rfl) rfl rfl ?_
  refine w_load (pc' := 2) (v := .int (zn 2)) (m := 1) (ykc_54 (e := (2, .iload_n kF3, 0)) rfl) rfl rfl ?_
  refine w_pf (pc' := 5) (ykc_54 (e := (5, .putfield 18, 0)) rfl) rfl rfl (fun ph1770 u1769 => ?_)
  refine w_load (pc' := 6) (v := .ref 154) (m := 1) (ykc_54 (e := (2, .aload_n kF0, 0)) rfl) rfl rfl ?_
  refine w_gf (pc' := 9) (v := .ref 156) (ykc_54 (e := (5, .getfield 15, 0)) rfl) rfl ((u1769.2.1 154 1 (fun q => absurd q.2 (by decide))).trans (zsg hS zs_154_1)) rfl ?_
  refine w_alu (pc' := 10) (st' := [.int (Int32.ofInt 0), .ref 156]) (ykc_54 (e := (0, .iconst 0, 0)) rfl) rfl rfl ?_
  refine w_load (pc' := 11) (v := .ref 5) (m := 1) (ykc_54 (e := (2, .aload_n kF2, 0)) rfl) rfl rfl ?_
  refine w_cv (as := [.ref 5]) (r := [.int (Int32.ofInt 0), .ref 156]) (ykc_54 (e := (6, .invokevirtual 22, 0)) rfl) rfl rfl rfl rfl (zc_rows (zSh_F ((zFr_st u1769 (Or.inr (by simp))) : zFr [155] [(154, 2), (156, 0), (156, 1)] ph _) (by decide +kernel) hS) (zCl_F ((zFr_st u1769 (Or.inr (by simp))) : zFr [155] [(154, 2), (156, 0), (156, 1)] ph _) (by simp) (by intro i hi; simp <;> omega) (by simp) hL)) (fun v1771 ph1772 hv => ?_)
  obtain ⟨rfl, rfl⟩ := hv
  show zW n D 54 Q 14 [some (.ref 154), some (.ref 1), some (.ref 5), some (.int (zn 2)), some (.int zr), none, none, none, none] [.int (zn R), .int (Int32.ofInt 0), .ref 156] ph1770
  refine w_ias (pc' := 15) (k := 0) (ykc_54 (e := (5, .iastore, 0)) rfl) (by omega) rfl (fun ph1774 u1773 => ?_)
  refine w_load (pc' := 16) (v := .ref 154) (m := 1) (ykc_54 (e := (2, .aload_n kF0, 0)) rfl) rfl rfl ?_
  refine w_gf (pc' := 19) (v := .ref 156) (ykc_54 (e := (5, .getfield 15, 0)) rfl) rfl ((u1773.2.1 154 1 (fun q => absurd q.1 (by decide))).trans ((u1769.2.1 154 1 (fun q => absurd q.2 (by decide))).trans (zsg hS zs_154_1))) rfl ?_
  refine w_alu (pc' := 20) (st' := [.int (Int32.ofInt 1), .ref 156]) (ykc_54 (e := (0, .iconst 1, 0)) rfl) rfl rfl ?_
  refine w_load (pc' := 21) (v := .ref 5) (m := 1) (ykc_54 (e := (2, .aload_n kF2, 0)) rfl) rfl rfl ?_
  refine w_cv (as := [.ref 5]) (r := [.int (Int32.ofInt 1), .ref 156]) (ykc_54 (e := (6, .invokevirtual 28, 0)) rfl) rfl rfl rfl rfl (zc_cols (zSh_F ((zFr_trans (zFr_st u1769 (Or.inr (by simp))) (zFr_st u1773 (Or.inr (by simp)))) : zFr [155] [(154, 2), (156, 0), (156, 1)] ph _) (by decide +kernel) hS) (zCl_F ((zFr_trans (zFr_st u1769 (Or.inr (by simp))) (zFr_st u1773 (Or.inr (by simp)))) : zFr [155] [(154, 2), (156, 0), (156, 1)] ph _) (by simp) (by intro i hi; simp <;> omega) (by simp) hL)) (fun v1775 ph1776 hv => ?_)
  obtain ⟨rfl, rfl⟩ := hv
  show zW n D 54 Q 24 [some (.ref 154), some (.ref 1), some (.ref 5), some (.int (zn 2)), some (.int zr), none, none, none, none] [.int (zn C), .int (Int32.ofInt 1), .ref 156] ph1774
  refine w_ias (pc' := 25) (k := 1) (ykc_54 (e := (5, .iastore, 0)) rfl) (by omega) rfl (fun ph1778 u1777 => ?_)
  refine w_load (pc' := 26) (v := .ref 1) (m := 1) (ykc_54 (e := (2, .aload_n kF1, 0)) rfl) rfl rfl ?_
  refine w_cv (as := [.ref 1]) (r := []) (ykc_54 (e := (6, .invokevirtual 31, 0)) rfl) rfl rfl rfl rfl (zc_tsize ((u1777.2.1 1 1 (fun q => absurd q.1 (by decide))).trans ((u1773.2.1 1 1 (fun q => absurd q.1 (by decide))).trans ((u1769.2.1 1 1 (fun q => absurd q.1 (by decide))).trans gn)))) (fun v1779 ph1780 hv => ?_)
  obtain ⟨rfl, rfl⟩ := hv
  show zW n D 54 Q 29 [some (.ref 154), some (.ref 1), some (.ref 5), some (.int (zn 2)), some (.int zr), none, none, none, none] [.int (zn ln)] ph1778
  refine w_store (pc' := 31) (L' := [some (.ref 154), some (.ref 1), some (.ref 5), some (.int (zn 2)), some (.int zr), some (.int (zn ln)), none, none, none]) (st' := []) (m := 2) (ykc_54 (e := (3, .istore 5, 0)) rfl) rfl rfl ?_
  refine w_load (pc' := 33) (v := .int (zn ln)) (m := 2) (ykc_54 (e := (2, .iload 5, 0)) rfl) rfl rfl ?_
  refine w_zne (ykc_54 (e := (4, .ifCond .ne 5, 38)) rfl) rfl (fun b1781 => ?_) (fun b1781 => ?_)
  · refine w_alu (pc' := 39) (st' := [.int (Int32.ofInt 0)]) (ykc_54 (e := (0, .iconst 0, 0)) rfl) rfl rfl ?_
    refine w_store (pc' := 41) (L' := [some (.ref 154), some (.ref 1), some (.ref 5), some (.int (zn 2)), some (.int zr), some (.int (zn ln)), some (.int (Int32.ofInt 0)), none, none]) (st' := []) (m := 2) (ykc_54 (e := (3, .istore 6, 0)) rfl) rfl rfl ?_
    refine w_alu (pc' := 42) (st' := [.int (Int32.ofInt 0)]) (ykc_54 (e := (0, .iconst 0, 0)) rfl) rfl rfl ?_
    refine w_store (pc' := 44) (L' := [some (.ref 154), some (.ref 1), some (.ref 5), some (.int (zn 2)), some (.int zr), some (.int (zn ln)), some (.int (Int32.ofInt 0)), some (.int (Int32.ofInt 0)), none]) (st' := []) (m := 2) (ykc_54 (e := (3, .istore 7, 0)) rfl) rfl rfl ?_
    have f1 : zFr [155] [(154, 2), (156, 0), (156, 1)] ph ph1778 := (zFr_trans (zFr_trans (zFr_st u1769 (Or.inr (by simp))) (zFr_st u1773 (Or.inr (by simp)))) (zFr_st u1777 (Or.inr (by simp))))
    have h1542 := ((u1777.2.1 154 2 (fun q => absurd q.1 (by decide))).trans ((u1773.2.1 154 2 (fun q => absurd q.1 (by decide))).trans u1769.1))
    have h1560 := ((u1777.2.1 156 0 (fun q => absurd q.2 (by decide))).trans u1773.1)
    have h1561 := u1777.1
    have e0 : zLa R C rk 2 3 ln t room = zLo R C rk 2 3 ln t room 9 0 := if_neg (by omega)
    have hb1 : ∀ i, i < 2 → zc ph1778 156 i = some (.int (zn (zLb R C i))) := fun i hi => by
      rcases (show i = 0 ∨ i = 1 ∨ i = 2 ∨ i = 3 by omega) with e | e | e | e <;> subst e
      · exact h1560
      · exact h1561
      · exact (f1.1 156 2 (by decide) (by decide)).trans hB.1
      · exact (f1.1 156 3 (by decide) (by decide)).trans hB.2
    have hl : ∀ (n : Nat), ∀ (l : Nat) (x8 : Option Value) (ph2 : pm_H), (l ≤ 7) → (l ≤ room) → (zFr [155] [] ph1778 ph2) → (zLa R C rk 2 3 ln t room = zLo R C rk 2 3 ln t room (9 - l) l) → (∀ j, j < l → zLg R C rk 2 ln t (3 * j) 2 = 2 ∧ ∀ i, i < 2 → zc ph2 155 (j * 2 + i) = some (.int (zn (t (3 * j + i) - 48)))) → zW n D 54 Q 44 [some (.ref 154), some (.ref 1), some (.ref 5), some (.int (zn 2)), some (.int zr), some (.int (zn ln)), some (.int (zn (3 * l))), some (.int (zn l)), x8] [] ph2 := by
      intro n
      induction n using Nat.strongRecOn with
      | ind n ih =>
        intro l x8 ph2 hl hlm hf ha hg
        have tl := znt (k := l) (by omega)
        have tsl := znt (k := 3 * l) (by omega)
        have f2 : zFr [155] [(154, 2), (156, 0), (156, 1)] ph ph2 := zFr_trans f1 (zFr_mono hf (by simp) (by simp))
        have hS2 := zSh_F f2 (by decide +kernel) hS
        have hL2 := zCl_F f2 (by simp) (by intro i hi; simp <;> omega) (by simp) hL
        have hT2 := zTc_F f2 (by simp) (by simp) (by simp) hT0
        have hin : l ≠ room → ∀ (n1 : Nat), n1 ≤ n → ∀ (i : Nat) (ph2 : pm_H), i ≤ 2 → (zFr [155] [] ph1778 ph2) → (∀ j, j < l → zLg R C rk 2 ln t (3 * j) 2 = 2 ∧ ∀ i, i < 2 → zc ph2 155 (j * 2 + i) = some (.int (zn (t (3 * j + i) - 48)))) → (zLg R C rk 2 ln t (3 * l) i = i) → (∀ k, k < i → zc ph2 155 (l * 2 + k) = some (.int (zn (t (3 * l + k) - 48)))) → zW n1 D 54 Q 61 [some (.ref 154), some (.ref 1), some (.ref 5), some (.int (zn 2)), some (.int zr), some (.int (zn ln)), some (.int (zn (3 * l + i))), some (.int (zn l)), some (.int (zn i))] [] ph2 := by
          intro hlr n1
          induction n1 using Nat.strongRecOn with
          | ind n1 ih1 =>
            intro hn1 i ph2 hi hf hg hgi hst
            have tl := znt (k := l) (by omega)
            have tsl := znt (k := 3 * l) (by omega)
            have f2 : zFr [155] [(154, 2), (156, 0), (156, 1)] ph ph2 := zFr_trans f1 (zFr_mono hf (by simp) (by simp))
            have hS2 := zSh_F f2 (by decide +kernel) hS
            have hL2 := zCl_F f2 (by simp) (by intro i hi; simp <;> omega) (by simp) hL
            have hT2 := zTc_F f2 (by simp) (by simp) (by simp) hT0
            have ti := znt (k := i) (by omega)
            have tsi := znt (k := 3 * l + i) (by omega)
            refine w_load (pc' := 63) (v := .int (zn i)) (m := 2) (ykc_54 (e := (2, .iload 8, 0)) rfl) rfl rfl ?_
            refine w_load (pc' := 64) (v := .ref 154) (m := 1) (ykc_54 (e := (2, .aload_n kF0, 0)) rfl) rfl rfl ?_
            refine w_gf (pc' := 67) (v := .int (zn 2)) (ykc_54 (e := (5, .getfield 18, 0)) rfl) rfl ((hf.1 154 2 (by decide) (by decide)).trans h1542) rfl ?_
            refine w_ige (ykc_54 (e := (4, .if_icmp .ge 35, 102)) rfl) rfl (fun b1782 => ?_) (fun b1782 => ?_)
            · have ei : i = 2 := by omega
              subst ei
              show zW n1 D 54 Q 102 [some (.ref 154), some (.ref 1), some (.ref 5), some (.int (zn 2)), some (.int zr), some (.int (zn ln)), some (.int (zn (3 * l + 2))), some (.int (zn l)), some (.int (zn 2))] [] ph2
              have hin9 : 3 * l + 2 ≤ ln := by have h := zLk_d (zLg_a hgi (2 - 1) (by omega)); omega
              refine w_load (pc' := 104) (v := .int (zn (3 * l + 2))) (m := 2) (ykc_54 (e := (2, .iload 6, 0)) rfl) rfl rfl ?_
              refine w_load (pc' := 106) (v := .int (zn ln)) (m := 2) (ykc_54 (e := (2, .iload 5, 0)) rfl) rfl rfl ?_
              refine w_ine (ykc_54 (e := (4, .if_icmp .ne 8, 114)) rfl) rfl (fun b1783 => ?_) (fun b1783 => ?_)
              · refine w_load (pc' := 116) (v := .int (zn l)) (m := 2) (ykc_54 (e := (2, .iload 7, 0)) rfl) rfl rfl ?_
                refine w_alu (pc' := 117) (st' := [.int (Int32.ofInt 1), .int (zn l)]) (ykc_54 (e := (0, .iconst 1, 0)) rfl) rfl rfl ?_
                have e1784 : (zn l) + (Int32.ofInt 1) = zn (l + 1) := (zaddN (a := l) (b := 1) (znt (by omega)) c_4 (by omega)) 
                have te1784 := znt (k := l + 1) (by omega)
                refine w_alu (pc' := 118) (st' := [.int (zn (l + 1))]) (ykc_54 (e := (0, .iadd, 0)) rfl) (by rw [← e1784]; rfl) rfl ?_
                refine w_push (pc' := 120) (v := .int ((Int8.ofInt 8).toInt32)) (m := 2) (ykc_54 (e := (1, .bipush 8, 0)) rfl) rfl rfl ?_
                refine w_ieq (ykc_54 (e := (4, .if_icmp .eq 14, 134)) rfl) rfl (fun b1785 => ?_) (fun b1785 => ?_)
                · refine w_alu (pc' := 135) (st' := [.int (Int32.ofInt (-1))]) (ykc_54 (e := (0, .iconst (-1), 0)) rfl) rfl rfl ?_
                  refine w_load (pc' := 137) (v := .int (zn (3 * l + 2))) (m := 2) (ykc_54 (e := (2, .iload 6, 0)) rfl) rfl rfl ?_
                  obtain ⟨z1786, e_z1786, h_z1786⟩ : ∃ zq : Int32, (Int32.ofInt (-1)) - (zn (3 * l + 2)) = zq ∧ zq.toInt = (-1 : Int) - ((3 * l + 2 : Nat) : Int) := ⟨_, rfl, zm1sub (by omega) (by omega) (by omega)⟩
                  refine w_alu (pc' := 138) (st' := [.int z1786]) (ykc_54 (e := (0, .isub, 0)) rfl) (by rw [← e_z1786]; rfl) rfl ?_
                  refine w_ret (v := (some (.int z1786))) (ykc_54 (e := (7, .ireturn, 0)) rfl) (zr_v rfl) ?_
                  have h8 := ha.trans (zLo_3 (by omega) hlr hgi (by omega) (by omega))
                  rw [hQ]
                  refine ⟨f2, (hf.1 154 2 (by decide) (by decide)).trans h1542, _, rfl, ?_, ?_⟩
                  · rw [h8]; omega
                  · intro j hj
                    rw [h8] at hj
                    exact absurd hj (by omega)
                · refine w_load (pc' := 124) (v := .ref 1) (m := 1) (ykc_54 (e := (2, .aload_n kF1, 0)) rfl) rfl rfl ?_
                  refine w_load (pc' := 126) (v := .int (zn (3 * l + 2))) (m := 2) (ykc_54 (e := (2, .iload 6, 0)) rfl) rfl rfl ?_
                  refine w_cv (as := [.ref 1, .int (zn (3 * l + 2))]) (r := []) (ykc_54 (e := (6, .invokevirtual 44, 0)) rfl) rfl rfl rfl rfl (zc_at hS2 hT2 (k := 3 * l + 2) (by omega)) (fun v1787 ph1788 hv => ?_)
                  obtain ⟨rfl, xa, rfl, exa⟩ := hv
                  have da := @zTi_c ln (3 * l + 2) t
                  have ba := @zTi_b ln (3 * l + 2) t (fun h => (gt _ h).2)
                  show zW n1 D 54 Q 129 [some (.ref 154), some (.ref 1), some (.ref 5), some (.int (zn 2)), some (.int zr), some (.int (zn ln)), some (.int (zn (3 * l + 2))), some (.int (zn l)), some (.int (zn 2))] [.int xa] ph2
                  refine w_push (pc' := 131) (v := .int ((Int8.ofInt 59).toInt32)) (m := 2) (ykc_54 (e := (1, .bipush 59, 0)) rfl) rfl rfl ?_
                  refine w_ieq (ykc_54 (e := (4, .if_icmp .eq 8, 139)) rfl) rfl (fun b1789 => ?_) (fun b1789 => ?_)
                  · have e1790 : (zn (3 * l + 2)) + Int32.ofInt 1 = zn (3 * l + 2 + 1) := (zaddN (a := 3 * l + 2) (b := 1) (znt (by omega)) c_4 (by omega))
                    have te1790 := znt (k := 3 * l + 2 + 1) (by omega)
                    refine w_store (pc' := 142) (L' := [some (.ref 154), some (.ref 1), some (.ref 5), some (.int (zn 2)), some (.int zr), some (.int (zn ln)), some (.int (zn (3 * l + 2 + 1))), some (.int (zn l)), some (.int (zn 2))]) (st' := []) (m := 3) (ykc_54 (e := (3, .iinc 6 1, 0)) rfl) (by rw [← e1790]; rfl) rfl ?_
                    have e1791 : (zn l) + Int32.ofInt 1 = zn (l + 1) := (zaddN (a := l) (b := 1) (znt (by omega)) c_4 (by omega))
                    have te1791 := znt (k := l + 1) (by omega)
                    refine w_store (pc' := 145) (L' := [some (.ref 154), some (.ref 1), some (.ref 5), some (.int (zn 2)), some (.int zr), some (.int (zn ln)), some (.int (zn (3 * l + 2 + 1))), some (.int (zn (l + 1))), some (.int (zn 2))]) (st' := []) (m := 3) (ykc_54 (e := (3, .iinc 7 1, 0)) rfl) (by rw [← e1791]; rfl) rfl ?_
                    refine w_gb (ykc_54 (e := (4, .goto (-101), 44)) rfl) (fun k1792 hk1792 => ?_)
                    have h8 := ha.trans (zLo_4 (by omega) hlr hgi (by omega) (by omega))
                    rw [show 3 * l + 2 + 1 = 3 * (l + 1) by omega]
                    exact ih k1792 (by omega) (l + 1) _ ph2 (by omega) (by omega) hf h8 (fun j hj => by
                      by_cases e : j = l
                      · subst e; exact ⟨hgi, hst⟩
                      · exact hg j (by omega))
                  · refine w_alu (pc' := 135) (st' := [.int (Int32.ofInt (-1))]) (ykc_54 (e := (0, .iconst (-1), 0)) rfl) rfl rfl ?_
                    refine w_load (pc' := 137) (v := .int (zn (3 * l + 2))) (m := 2) (ykc_54 (e := (2, .iload 6, 0)) rfl) rfl rfl ?_
                    obtain ⟨z1793, e_z1793, h_z1793⟩ : ∃ zq : Int32, (Int32.ofInt (-1)) - (zn (3 * l + 2)) = zq ∧ zq.toInt = (-1 : Int) - ((3 * l + 2 : Nat) : Int) := ⟨_, rfl, zm1sub (by omega) (by omega) (by omega)⟩
                    refine w_alu (pc' := 138) (st' := [.int z1793]) (ykc_54 (e := (0, .isub, 0)) rfl) (by rw [← e_z1793]; rfl) rfl ?_
                    refine w_ret (v := (some (.int z1793))) (ykc_54 (e := (7, .ireturn, 0)) rfl) (zr_v rfl) ?_
                    have h8 := ha.trans (zLo_3 (by omega) hlr hgi (by omega) (by omega))
                    rw [hQ]
                    refine ⟨f2, (hf.1 154 2 (by decide) (by decide)).trans h1542, _, rfl, ?_, ?_⟩
                    · rw [h8]; omega
                    · intro j hj
                      rw [h8] at hj
                      exact absurd hj (by omega)
              · refine w_load (pc' := 111) (v := .int (zn l)) (m := 2) (ykc_54 (e := (2, .iload 7, 0)) rfl) rfl rfl ?_
                refine w_alu (pc' := 112) (st' := [.int (Int32.ofInt 1), .int (zn l)]) (ykc_54 (e := (0, .iconst 1, 0)) rfl) rfl rfl ?_
                have e1794 : (zn l) + (Int32.ofInt 1) = zn (l + 1) := (zaddN (a := l) (b := 1) (znt (by omega)) c_4 (by omega)) 
                have te1794 := znt (k := l + 1) (by omega)
                refine w_alu (pc' := 113) (st' := [.int (zn (l + 1))]) (ykc_54 (e := (0, .iadd, 0)) rfl) (by rw [← e1794]; rfl) rfl ?_
                refine w_ret (v := (some (.int (zn (l + 1))))) (ykc_54 (e := (7, .ireturn, 0)) rfl) (zr_v rfl) ?_
                have h8 := ha.trans (zLo_2 (by omega) hlr hgi (by omega))
                rw [hQ]
                refine ⟨f2, (hf.1 154 2 (by decide) (by decide)).trans h1542, _, rfl, ?_, ?_⟩
                · rw [h8]; omega
                · intro j hj
                  rw [h8] at hj
                  by_cases e : j = l
                  · subst e; exact ⟨hgi, hst⟩
                  · exact hg j (by omega)
              
            · refine w_load (pc' := 71) (v := .ref 154) (m := 1) (ykc_54 (e := (2, .aload_n kF0, 0)) rfl) rfl rfl ?_
              refine w_load (pc' := 72) (v := .ref 1) (m := 1) (ykc_54 (e := (2, .aload_n kF1, 0)) rfl) rfl rfl ?_
              refine w_load (pc' := 74) (v := .int (zn (3 * l + i))) (m := 2) (ykc_54 (e := (2, .iload 6, 0)) rfl) rfl rfl ?_
              refine w_cv (as := [.ref 1, .int (zn (3 * l + i))]) (r := [.ref 154]) (ykc_54 (e := (6, .invokevirtual 36, 0)) rfl) rfl rfl rfl rfl (zc_digit hS2 hT2 (k := 3 * l + i) (by omega)) (fun v1796 ph1797 hv => ?_)
              obtain ⟨rfl, xd, rfl, exd⟩ := hv
              show zW n1 D 54 Q 77 [some (.ref 154), some (.ref 1), some (.ref 5), some (.int (zn 2)), some (.int zr), some (.int (zn ln)), some (.int (zn (3 * l + i))), some (.int (zn l)), some (.int (zn i))] [.int xd, .ref 154] ph2
              refine w_load (pc' := 79) (v := .int (zn l)) (m := 2) (ykc_54 (e := (2, .iload 7, 0)) rfl) rfl rfl ?_
              refine w_load (pc' := 81) (v := .int (zn i)) (m := 2) (ykc_54 (e := (2, .iload 8, 0)) rfl) rfl rfl ?_
              refine w_load (pc' := 82) (v := .ref 5) (m := 1) (ykc_54 (e := (2, .aload_n kF2, 0)) rfl) rfl rfl ?_
              refine w_cv (as := [.ref 154, .int xd, .int (zn l), .int (zn i), .ref 5]) (r := []) (ykc_54 (e := (6, .invokevirtual 40, 0)) rfl) rfl rfl rfl rfl (zc_tdig2 hS2 hL2 (by omega) (by omega) ((hf.1 154 2 (by decide) (by decide)).trans h1542) (fun i hi => (hf.1 156 i (by decide) (by simp)).trans (hb1 i hi)) exd (fun e => by subst e; exact ⟨zLg_a hgi 0 (by omega), by have h := hst 0 (by omega); simpa using h⟩)) (fun v1798 ph1799 hv => ?_)
              rcases hv with ⟨ftd, ⟨hk9, rfl, htd⟩ | ⟨hk9, rfl⟩⟩
              · show zW n1 D 54 Q 85 [some (.ref 154), some (.ref 1), some (.ref 5), some (.int (zn 2)), some (.int zr), some (.int (zn ln)), some (.int (zn (3 * l + i))), some (.int (zn l)), some (.int (zn i))] [.int (zI true)] ph1799
                refine w_bne (ykc_54 (e := (4, .ifCond .ne 8, 93)) rfl) rfl (fun b1800 => ?_) (fun q => absurd q (by decide))
                have e1801 : (zn (3 * l + i)) + Int32.ofInt 1 = zn (3 * l + i + 1) := (zaddN (a := 3 * l + i) (b := 1) (znt (by omega)) c_4 (by omega))
                have te1801 := znt (k := 3 * l + i + 1) (by omega)
                refine w_store (pc' := 96) (L' := [some (.ref 154), some (.ref 1), some (.ref 5), some (.int (zn 2)), some (.int zr), some (.int (zn ln)), some (.int (zn (3 * l + i + 1))), some (.int (zn l)), some (.int (zn i))]) (st' := []) (m := 3) (ykc_54 (e := (3, .iinc 6 1, 0)) rfl) (by rw [← e1801]; rfl) rfl ?_
                have e1802 : (zn i) + Int32.ofInt 1 = zn (i + 1) := (zaddN (a := i) (b := 1) (znt (by omega)) c_4 (by omega))
                have te1802 := znt (k := i + 1) (by omega)
                refine w_store (pc' := 99) (L' := [some (.ref 154), some (.ref 1), some (.ref 5), some (.int (zn 2)), some (.int zr), some (.int (zn ln)), some (.int (zn (3 * l + i + 1))), some (.int (zn l)), some (.int (zn (i + 1)))]) (st' := []) (m := 3) (ykc_54 (e := (3, .iinc 8 1, 0)) rfl) (by rw [← e1802]; rfl) rfl ?_
                refine w_gb (ykc_54 (e := (4, .goto (-38), 61)) rfl) (fun k1803 hk1803 => ?_)
                exact ih1 k1803 hk1803 (by omega) (i + 1) _ (by omega) (zFr_trans hf ftd) (fun j hj => ⟨(hg j hj).1, fun k hk9 => (htd.2.1 155 (j * 2 + k) (fun q => by have q2 := q.2; omega)).trans ((hg j hj).2 k hk9)⟩) (zLg_s hgi hk9) (fun k hk => by
                  by_cases e : k = i
                  · subst e; exact htd.1
                  · exact (htd.2.1 155 (l * 2 + k) (fun q => e (by have q2 := q.2; omega))).trans (hst k (by omega)))
              · show zW n1 D 54 Q 85 [some (.ref 154), some (.ref 1), some (.ref 5), some (.int (zn 2)), some (.int zr), some (.int (zn ln)), some (.int (zn (3 * l + i))), some (.int (zn l)), some (.int (zn i))] [.int (zI false)] ph1799
                refine w_bne (ykc_54 (e := (4, .ifCond .ne 8, 93)) rfl) rfl (fun q => absurd q (by decide)) (fun b1804 => ?_)
                refine w_alu (pc' := 89) (st' := [.int (Int32.ofInt (-1))]) (ykc_54 (e := (0, .iconst (-1), 0)) rfl) rfl rfl ?_
                refine w_load (pc' := 91) (v := .int (zn (3 * l + i))) (m := 2) (ykc_54 (e := (2, .iload 6, 0)) rfl) rfl rfl ?_
                obtain ⟨z1805, e_z1805, h_z1805⟩ : ∃ zq : Int32, (Int32.ofInt (-1)) - (zn (3 * l + i)) = zq ∧ zq.toInt = (-1 : Int) - ((3 * l + i : Nat) : Int) := ⟨_, rfl, zm1sub (by omega) (by omega) (by omega)⟩
                refine w_alu (pc' := 92) (st' := [.int z1805]) (ykc_54 (e := (0, .isub, 0)) rfl) (by rw [← e_z1805]; rfl) rfl ?_
                refine w_ret (v := (some (.int z1805))) (ykc_54 (e := (7, .ireturn, 0)) rfl) (zr_v rfl) ?_
                have hlg : zLg R C rk 2 ln t (3 * l) 2 = i := by
                  have h := zLg_f hgi hk9 (2 - 1 - i)
                  rwa [show i + 1 + (2 - 1 - i) = 2 by omega] at h
                have h8 := ha.trans (zLo_1 (by omega) hlr (by omega))
                rw [hlg] at h8
                have f3 := zFr_trans f2 (zFr_mono ftd (by simp) (by simp) : zFr [155] [(154, 2), (156, 0), (156, 1)] ph2 _)
                rw [hQ]
                refine ⟨zFr_trans f2 (zFr_mono ftd (by simp) (by simp)), (ftd.1 154 2 (by decide) (by decide)).trans ((hf.1 154 2 (by decide) (by decide)).trans h1542), _, rfl, ?_, ?_⟩
                · rw [h8]; omega
                · intro j hj
                  rw [h8] at hj
                  exact absurd hj (by omega)
              
        refine w_load (pc' := 46) (v := .int (zn l)) (m := 2) (ykc_54 (e := (2, .iload 7, 0)) rfl) rfl rfl ?_
        refine w_push (pc' := 48) (v := .int ((Int8.ofInt 8).toInt32)) (m := 2) (ykc_54 (e := (1, .bipush 8, 0)) rfl) rfl rfl ?_
        refine w_ige (ykc_54 (e := (4, .if_icmp .ge 100, 148)) rfl) rfl (fun b1806 => ?_) (fun b1806 => ?_)
        · exfalso; omega
          
        · refine w_load (pc' := 53) (v := .int (zn l)) (m := 2) (ykc_54 (e := (2, .iload 7, 0)) rfl) rfl rfl ?_
          refine w_load (pc' := 55) (v := .int zr) (m := 2) (ykc_54 (e := (2, .iload 4, 0)) rfl) rfl rfl ?_
          refine w_ige (ykc_54 (e := (4, .if_icmp .ge 93, 148)) rfl) rfl (fun b1807 => ?_) (fun b1807 => ?_)
          · have hr : l = room := by omega
            refine w_alu (pc' := 149) (st' := [.int (Int32.ofInt (-1))]) (ykc_54 (e := (0, .iconst (-1), 0)) rfl) rfl rfl ?_
            refine w_load (pc' := 151) (v := .int (zn (3 * l))) (m := 2) (ykc_54 (e := (2, .iload 6, 0)) rfl) rfl rfl ?_
            obtain ⟨z1808, e_z1808, h_z1808⟩ : ∃ zq : Int32, (Int32.ofInt (-1)) - (zn (3 * l)) = zq ∧ zq.toInt = (-1 : Int) - ((3 * l : Nat) : Int) := ⟨_, rfl, zm1sub (by omega) (by omega) (by omega)⟩
            refine w_alu (pc' := 152) (st' := [.int z1808]) (ykc_54 (e := (0, .isub, 0)) rfl) (by rw [← e_z1808]; rfl) rfl ?_
            refine w_ret (v := (some (.int z1808))) (ykc_54 (e := (7, .ireturn, 0)) rfl) (zr_v rfl) ?_
            have h8 := ha.trans (zLo_0 (by omega) hr)
            rw [hQ]
            refine ⟨f2, (hf.1 154 2 (by decide) (by decide)).trans h1542, _, rfl, ?_, ?_⟩
            · rw [h8]; omega
            · intro j hj
              rw [h8] at hj
              exact absurd hj (by omega)
            
          · refine w_alu (pc' := 59) (st' := [.int (Int32.ofInt 0)]) (ykc_54 (e := (0, .iconst 0, 0)) rfl) rfl rfl ?_
            refine w_store (pc' := 61) (L' := [some (.ref 154), some (.ref 1), some (.ref 5), some (.int (zn 2)), some (.int zr), some (.int (zn ln)), some (.int (zn (3 * l))), some (.int (zn l)), some (.int (Int32.ofInt 0))]) (st' := []) (m := 2) (ykc_54 (e := (3, .istore 8, 0)) rfl) rfl rfl ?_
            exact hin (by omega) _ (Nat.le_refl _) 0 ph2 (Nat.zero_le _) hf hg rfl (fun k hk => absurd hk (Nat.not_lt_zero k))
    exact hl n 0 _ ph1778 (Nat.zero_le _) (Nat.zero_le _) zFr_refl e0 (fun j hj => absurd hj (Nat.not_lt_zero j))
  · refine w_alu (pc' := 37) (st' := [.int (Int32.ofInt 0)]) (ykc_54 (e := (0, .iconst 0, 0)) rfl) rfl rfl ?_
    refine w_ret (v := (some (.int (Int32.ofInt 0)))) (ykc_54 (e := (7, .ireturn, 0)) rfl) (zr_v rfl) ?_
    have e0 : zLa R C rk 2 3 ln t room = 0 := if_pos (by omega)
    rw [hQ]
    exact ⟨(zFr_trans (zFr_trans (zFr_st u1769 (Or.inr (by simp))) (zFr_st u1773 (Or.inr (by simp)))) (zFr_st u1777 (Or.inr (by simp)))), ((u1777.2.1 154 2 (fun q => absurd q.1 (by decide))).trans ((u1773.2.1 154 2 (fun q => absurd q.1 (by decide))).trans u1769.1)), _, rfl, by rw [e0]; omega, fun l hl => absurd hl (by rw [e0]; omega)⟩
