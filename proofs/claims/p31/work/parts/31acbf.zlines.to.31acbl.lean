/-! joined: 31acbf.zlines.lean.txt 31acbg.zpeople.lean.txt 31acbh.zmpeople.lean.txt 31acbi.zparse.lean.txt 31acbj.zsim.lean.txt 31acbk.zform.lean.txt 31acbl.zread.lean.txt -/
section
/-! LINES of digits, class and reference, by W; printed by wip/z/z1d_lines.py -/
/-- a digit below bd at p; the bounds of a LINE's digits; the FIELD at p; whether digit i of the LINE at p can stand; how many of its first i can -/
def zLd (n : Nat) (t : Nat → Nat) (bd p : Nat) : Bool := decide (p < n ∧ 48 ≤ t p ∧ t p < 48 + bd)
def zLb (R C i : Nat) : Nat := if i = 0 then R else if i = 1 then C else if i = 2 then 8 else 5
def zLf (C : Nat) (t : Nat → Nat) (p : Nat) : Nat := C * (t p - 48) + (t (p + 1) - 48)
def zLk (R C : Nat) (rk : Nat → Bool) (wd n : Nat) (t : Nat → Nat) (p i : Nat) : Bool := zLd n t (zLb R C i) (p + i) && !(decide (wd = 4 ∧ i = 1) && rk (zLf C t p))
def zLg (R C : Nat) (rk : Nat → Bool) (wd n : Nat) (t : Nat → Nat) (p : Nat) : Nat → Nat
  | 0 => 0
  | i + 1 => if zLg R C rk wd n t p i = i ∧ zLk R C rk wd n t p i = true then i + 1 else zLg R C rk wd n t p i
/-- what the reading of LINES from l on answers -/
def zLo (R C : Nat) (rk : Nat → Bool) (wd st n : Nat) (t : Nat → Nat) (room : Nat) : Nat → Nat → Int
  | 0, _ => 0
  | f + 1, l => if l = room then -1 - ((st * l : Nat) : Int) else if zLg R C rk wd n t (st * l) wd < wd then -1 - ((st * l + zLg R C rk wd n t (st * l) wd : Nat) : Int) else if st * l + wd = n then ((l + 1 : Nat) : Int) else if l = 7 ∨ t (st * l + wd) ≠ 59 then -1 - ((st * l + wd : Nat) : Int) else zLo R C rk wd st n t room f (l + 1)
def zLa (R C : Nat) (rk : Nat → Bool) (wd st n : Nat) (t : Nat → Nat) (room : Nat) : Int := if n = 0 then 0 else zLo R C rk wd st n t room 9 0
section ZLI
variable {R C wd st n room p i l : Nat} {rk : Nat → Bool} {t : Nat → Nat}
theorem zLb_b (hR : R ≤ 7) (hC : C ≤ 7) : zLb R C i ≤ 8 := by unfold zLb; (repeat' split) <;> omega
theorem zLk_0 (h : ¬ (p + i < n ∧ 48 ≤ t (p + i) ∧ t (p + i) < 48 + zLb R C i)) : zLk R C rk wd n t p i = false := by
  unfold zLk zLd
  rw [decide_eq_false h]
  rfl
theorem zLk_1 (h : p + i < n ∧ 48 ≤ t (p + i) ∧ t (p + i) < 48 + zLb R C i) (h2 : ¬ (wd = 4 ∧ i = 1) ∨ rk (zLf C t p) = false) : zLk R C rk wd n t p i = true := by
  unfold zLk zLd
  rw [decide_eq_true h]
  rcases h2 with h2 | h2
  · rw [decide_eq_false h2]; rfl
  · rw [h2, Bool.and_false]; rfl
theorem zLk_r (h : wd = 4 ∧ i = 1) (h2 : rk (zLf C t p) = true) : zLk R C rk wd n t p i = false := by
  unfold zLk
  rw [decide_eq_true h, h2]
  exact Bool.and_false _
theorem zLk_d (h : zLk R C rk wd n t p i = true) : p + i < n ∧ 48 ≤ t (p + i) ∧ t (p + i) < 48 + zLb R C i := by
  unfold zLk zLd at h
  exact of_decide_eq_true ((Bool.and_eq_true _ _).mp h).1
theorem zLg_s (h : zLg R C rk wd n t p i = i) (h2 : zLk R C rk wd n t p i = true) : zLg R C rk wd n t p (i + 1) = i + 1 := if_pos ⟨h, h2⟩
theorem zLg_f (h : zLg R C rk wd n t p i = i) (h2 : zLk R C rk wd n t p i = false) : ∀ k, zLg R C rk wd n t p (i + 1 + k) = i := by
  intro k
  induction k with
  | zero => exact (if_neg (fun q => by rw [h2] at q; exact absurd q.2 (by decide))).trans h
  | succ k ih => exact (if_neg (fun q => by have q1 : zLg R C rk wd n t p (i + 1 + k) = i + 1 + k := q.1; omega)).trans ih
theorem zLg_le : ∀ m, zLg R C rk wd n t p m ≤ m
  | 0 => Nat.le_refl 0
  | m + 1 => by
    have h := zLg_le m
    show (if zLg R C rk wd n t p m = m ∧ zLk R C rk wd n t p m = true then m + 1 else zLg R C rk wd n t p m) ≤ m + 1
    split
    · exact Nat.le_refl _
    · exact Nat.le_succ_of_le h
theorem zLg_a : ∀ {k : Nat}, zLg R C rk wd n t p k = k → ∀ i, i < k → zLk R C rk wd n t p i = true := by
  intro k
  induction k with
  | zero => intro _ i hi; omega
  | succ k ih =>
    intro h i hi
    have h1 : (if zLg R C rk wd n t p k = k ∧ zLk R C rk wd n t p k = true then k + 1 else zLg R C rk wd n t p k) = k + 1 := h
    by_cases e : zLg R C rk wd n t p k = k ∧ zLk R C rk wd n t p k = true
    · by_cases e2 : i = k
      · subst e2; exact e.2
      · exact ih e.1 i (by omega)
    · rw [if_neg e] at h1
      have h3 := @zLg_le R C wd n p rk t k
      omega
theorem zLo_u (h : l ≤ 8) : zLo R C rk wd st n t room (9 - l) l = if l = room then -1 - ((st * l : Nat) : Int) else if zLg R C rk wd n t (st * l) wd < wd then -1 - ((st * l + zLg R C rk wd n t (st * l) wd : Nat) : Int) else if st * l + wd = n then ((l + 1 : Nat) : Int) else if l = 7 ∨ t (st * l + wd) ≠ 59 then -1 - ((st * l + wd : Nat) : Int) else zLo R C rk wd st n t room (9 - (l + 1)) (l + 1) := by
  rw [show 9 - l = (8 - l) + 1 by omega, show 9 - (l + 1) = 8 - l by omega]
  rfl
theorem zLo_0 (h : l ≤ 8) (h1 : l = room) : zLo R C rk wd st n t room (9 - l) l = -1 - ((st * l : Nat) : Int) := by rw [zLo_u h, if_pos h1]
theorem zLo_1 (h : l ≤ 8) (h1 : l ≠ room) (h2 : zLg R C rk wd n t (st * l) wd < wd) : zLo R C rk wd st n t room (9 - l) l = -1 - ((st * l + zLg R C rk wd n t (st * l) wd : Nat) : Int) := by rw [zLo_u h, if_neg h1, if_pos h2]
theorem zLo_2 (h : l ≤ 8) (h1 : l ≠ room) (h2 : zLg R C rk wd n t (st * l) wd = wd) (h3 : st * l + wd = n) : zLo R C rk wd st n t room (9 - l) l = ((l + 1 : Nat) : Int) := by rw [zLo_u h, if_neg h1, if_neg (by omega), if_pos h3]
theorem zLo_3 (h : l ≤ 8) (h1 : l ≠ room) (h2 : zLg R C rk wd n t (st * l) wd = wd) (h3 : st * l + wd ≠ n) (h4 : l = 7 ∨ t (st * l + wd) ≠ 59) : zLo R C rk wd st n t room (9 - l) l = -1 - ((st * l + wd : Nat) : Int) := by rw [zLo_u h, if_neg h1, if_neg (by omega), if_neg h3, if_pos h4]
theorem zLo_4 (h : l ≤ 8) (h1 : l ≠ room) (h2 : zLg R C rk wd n t (st * l) wd = wd) (h3 : st * l + wd ≠ n) (h4 : ¬ (l = 7 ∨ t (st * l + wd) ≠ 59)) : zLo R C rk wd st n t room (9 - l) l = zLo R C rk wd st n t room (9 - (l + 1)) (l + 1) := by rw [zLo_u h, if_neg h1, if_neg (by omega), if_neg h3, if_neg h4]
theorem zLf_lt (hR3 : 0 < R) (hC3 : 0 < C) (h0 : t p < 48 + R) (h1 : t (p + 1) < 48 + C) : zLf C t p < R * C := by
  have h2 : C * (t p - 48 + 1) ≤ C * R := Nat.mul_le_mul_left C (by omega)
  rw [Nat.mul_add, Nat.mul_comm C R] at h2
  unfold zLf
  omega
theorem zLf_c (h0 : t p < 48 + R) (h1 : t (p + 1) < 48 + C) (hR3 : 0 < R) (hC3 : 0 < C) : zfa R C ((t p - 48 : Nat) : Int) ((t (p + 1) - 48 : Nat) : Int) = ((zLf C t p : Nat) : Int) := by
  unfold zfa zLf
  rw [if_pos (by omega), Int.toNat_natCast, Int.toNat_natCast, Nat.mul_comm]
end ZLI
/-- the class's bounds of FACINGS and BRIMS -/
def zBd (ph : pm_H) : Prop := zc ph 156 2 = some (.int (zn 8)) ∧ zc ph 156 3 = some (.int (zn 5))
theorem zc_tdig4 {ph : pm_H} {R C ln : Nat} {rk : Nat → Bool} {t : Nat → Nat} (hS : zSh ph) (hL : zCl ph R C rk) {l i : Nat} {x : Int32} (hl8 : l < 8) (hi : i < 4) (hw : zc ph 154 2 = some (.int (zn 4))) (hb : ∀ i, i < 4 → zc ph 156 i = some (.int (zn (zLb R C i)))) (hx : x.toInt = zDi ln t (5 * l + i)) (hpr : i = 1 → zLk R C rk 4 ln t (5 * l) 0 = true ∧ zc ph 155 (l * 4) = some (.int (zn (t (5 * l) - 48)))) : zM 55 [.ref 154, .int x, .int (zn l), .int (zn i), .ref 5] ph (fun v0 q => zFr [155] [] ph q ∧ ((zLk R C rk 4 ln t (5 * l) i = true ∧ v0 = some (.int (zI true)) ∧ zst ph q 155 (l * 4 + i) (.int (zn (t (5 * l + i) - 48)))) ∨ (zLk R C rk 4 ln t (5 * l) i = false ∧ v0 = some (.int (zI false))))) := by
  obtain ⟨Q, hQ⟩ : ∃ Q : Option Value → pm_H → Prop, Q = (fun v0 q => zFr [155] [] ph q ∧ ((zLk R C rk 4 ln t (5 * l) i = true ∧ v0 = some (.int (zI true)) ∧ zst ph q 155 (l * 4 + i) (.int (zn (t (5 * l + i) - 48)))) ∨ (zLk R C rk 4 ln t (5 * l) i = false ∧ v0 = some (.int (zI false))))) := ⟨_, rfl⟩
  rw [← hQ]
  refine zM_mk fun n D => ?_
  show zW n D 55 Q 0 [some (.ref 154), some (.int x), some (.int (zn l)), some (.int (zn i)), some (.ref 5), none, none] [] ph
  have c_0 : (Int32.ofInt 0).toInt = 0 := by decide
  have c_1 : (Int32.ofInt 1).toInt = 1 := by decide
  have c_2 : (Int32.ofInt 4).toInt = 4 := by decide
  obtain ⟨gR, gC, gN, gK, gA, hR3, hR7, hC3, hC7⟩ := hL
  have hL0 : zCl ph R C rk := ⟨gR, gC, gN, gK, gA, hR3, hR7, hC3, hC7⟩
  have hRC := zRC49 hR7 hC7
  have tl := znt (k := l) (by omega)
  have ti := znt (k := i) (by omega)
  have tw := znt (k := 4) (by omega)
  have d9 := @zDi_c ln (5 * l + i) t
  have b9 := @zLb_b R C i hR7 hC7
  have tb9 := znt (k := zLb R C i) (by omega)
  refine w_load (pc' := 1) (v := .int (zn l)) (m := 1) (ykc_55 (e := (2, .iload_n kF2, 0)) rfl) rfl rfl ?_
  refine w_load (pc' := 2) (v := .ref 154) (m := 1) (ykc_55 (e := (2, .aload_n kF0, 0)) rfl) rfl rfl ?_
  refine w_gf (pc' := 5) (v := .int (zn 4)) (ykc_55 (e := (5, .getfield 18, 0)) rfl) rfl hw rfl ?_
  have e1682 : (zn l) * (zn 4) = zn (l * 4) := zn_of (by rw [ti_mul (by rw [show (zn l).toInt = ((l : Nat) : Int) by omega, show (zn 4).toInt = ((4 : Nat) : Int) by omega]; omega) (by rw [show (zn l).toInt = ((l : Nat) : Int) by omega, show (zn 4).toInt = ((4 : Nat) : Int) by omega]; omega), show (zn l).toInt = ((l : Nat) : Int) by omega, show (zn 4).toInt = ((4 : Nat) : Int) by omega] <;> omega)
  have te1682 := znt (k := l * 4) (by omega)
  refine w_alu (pc' := 6) (st' := [.int (zn (l * 4))]) (ykc_55 (e := (0, .imul, 0)) rfl) (by rw [← e1682]; rfl) rfl ?_
  refine w_load (pc' := 7) (v := .int (zn i)) (m := 1) (ykc_55 (e := (2, .iload_n kF3, 0)) rfl) rfl rfl ?_
  have e1683 : (zn (l * 4)) + (zn i) = zn (l * 4 + i) := (zaddN (a := l * 4) (b := i) (znt (by omega)) (znt (by omega)) (by omega)) 
  have te1683 := znt (k := l * 4 + i) (by omega)
  refine w_alu (pc' := 8) (st' := [.int (zn (l * 4 + i))]) (ykc_55 (e := (0, .iadd, 0)) rfl) (by rw [← e1683]; rfl) rfl ?_
  refine w_store (pc' := 10) (L' := [some (.ref 154), some (.int x), some (.int (zn l)), some (.int (zn i)), some (.ref 5), some (.int (zn (l * 4 + i))), none]) (st' := []) (m := 2) (ykc_55 (e := (3, .istore 5, 0)) rfl) rfl rfl ?_
  refine w_load (pc' := 11) (v := .int (zn i)) (m := 1) (ykc_55 (e := (2, .iload_n kF3, 0)) rfl) rfl rfl ?_
  refine w_zlt (ykc_55 (e := (4, .ifCond .lt 27, 38)) rfl) rfl (fun q => by exfalso; omega) (fun b1684 => ?_)
  refine w_load (pc' := 15) (v := .int (zn i)) (m := 1) (ykc_55 (e := (2, .iload_n kF3, 0)) rfl) rfl rfl ?_
  refine w_load (pc' := 16) (v := .ref 154) (m := 1) (ykc_55 (e := (2, .aload_n kF0, 0)) rfl) rfl rfl ?_
  refine w_gf (pc' := 19) (v := .ref 156) (ykc_55 (e := (5, .getfield 15, 0)) rfl) rfl (zsg hS zs_154_1) rfl ?_
  have cn1685 : (Int32.ofNat 4).toInt = 4 := by decide
  refine w_aln (ykc_55 (e := (5, .arraylength, 0)) rfl) (zsl hS zl_156) rfl ?_
  refine w_ige (ykc_55 (e := (4, .if_icmp .ge 18, 38)) rfl) rfl (fun q => by exfalso; omega) (fun b1686 => ?_)
  refine w_load (pc' := 25) (v := .int (zn (l * 4 + i))) (m := 2) (ykc_55 (e := (2, .iload 5, 0)) rfl) rfl rfl ?_
  refine w_zlt (ykc_55 (e := (4, .ifCond .lt 13, 38)) rfl) rfl (fun q => by exfalso; omega) (fun b1687 => ?_)
  refine w_load (pc' := 30) (v := .int (zn (l * 4 + i))) (m := 2) (ykc_55 (e := (2, .iload 5, 0)) rfl) rfl rfl ?_
  refine w_load (pc' := 31) (v := .ref 154) (m := 1) (ykc_55 (e := (2, .aload_n kF0, 0)) rfl) rfl rfl ?_
  refine w_gf (pc' := 34) (v := .ref 155) (ykc_55 (e := (5, .getfield 11, 0)) rfl) rfl (zsg hS zs_154_0) rfl ?_
  have cn1688 : (Int32.ofNat 32).toInt = 32 := by decide
  refine w_aln (ykc_55 (e := (5, .arraylength, 0)) rfl) (zsl hS zl_155) rfl ?_
  refine w_ilt (ykc_55 (e := (4, .if_icmp .lt 5, 40)) rfl) rfl (fun b1689 => ?_) (fun q => by exfalso; omega)
  refine w_load (pc' := 41) (v := .int x) (m := 1) (ykc_55 (e := (2, .iload_n kF1, 0)) rfl) rfl rfl ?_
  refine w_zlt (ykc_55 (e := (4, .ifCond .lt 13, 54)) rfl) rfl (fun b1690 => ?_) (fun b1690 => ?_)
  · refine w_alu (pc' := 55) (st' := [.int (Int32.ofInt 0)]) (ykc_55 (e := (0, .iconst 0, 0)) rfl) rfl rfl ?_
    refine w_ret (v := (some (.int (Int32.ofInt 0)))) (ykc_55 (e := (7, .ireturn, 0)) rfl) zr_z ?_
    rw [hQ, zi0]
    exact ⟨zFr_refl, Or.inr ⟨zLk_0 (by omega), rfl⟩⟩
  · refine w_load (pc' := 45) (v := .int x) (m := 1) (ykc_55 (e := (2, .iload_n kF1, 0)) rfl) rfl rfl ?_
    refine w_load (pc' := 46) (v := .ref 154) (m := 1) (ykc_55 (e := (2, .aload_n kF0, 0)) rfl) rfl rfl ?_
    refine w_gf (pc' := 49) (v := .ref 156) (ykc_55 (e := (5, .getfield 15, 0)) rfl) rfl (zsg hS zs_154_1) rfl ?_
    refine w_load (pc' := 50) (v := .int (zn i)) (m := 1) (ykc_55 (e := (2, .iload_n kF3, 0)) rfl) rfl rfl ?_
    refine w_ialk (pc' := 51) (k := i) (ykc_55 (e := (5, .iaload, 0)) rfl) (hb i (by omega)) (by omega) rfl ?_
    refine w_ilt (ykc_55 (e := (4, .if_icmp .lt 5, 56)) rfl) rfl (fun b1691 => ?_) (fun b1691 => ?_)
    · have ex : x = zn (t (5 * l + i) - 48) := zn_of (by omega)
      refine w_load (pc' := 57) (v := .ref 154) (m := 1) (ykc_55 (e := (2, .aload_n kF0, 0)) rfl) rfl rfl ?_
      refine w_gf (pc' := 60) (v := .ref 155) (ykc_55 (e := (5, .getfield 11, 0)) rfl) rfl (zsg hS zs_154_0) rfl ?_
      refine w_load (pc' := 62) (v := .int (zn (l * 4 + i))) (m := 2) (ykc_55 (e := (2, .iload 5, 0)) rfl) rfl rfl ?_
      refine w_load (pc' := 63) (v := .int x) (m := 1) (ykc_55 (e := (2, .iload_n kF1, 0)) rfl) rfl rfl ?_
      refine w_ias (pc' := 64) (k := l * 4 + i) (ykc_55 (e := (5, .iastore, 0)) rfl) (by omega) rfl (fun ph1693 u1692 => ?_)
      have hu : zst ph ph1693 155 (l * 4 + i) (.int (zn (t (5 * l + i) - 48))) := by rw [← ex]; exact u1692
      refine w_load (pc' := 65) (v := .ref 154) (m := 1) (ykc_55 (e := (2, .aload_n kF0, 0)) rfl) rfl rfl ?_
      refine w_gf (pc' := 68) (v := .int (zn 4)) (ykc_55 (e := (5, .getfield 18, 0)) rfl) rfl ((u1692.2.1 154 2 (fun q => absurd q.1 (by decide))).trans hw) rfl ?_
      refine w_alu (pc' := 69) (st' := [.int (Int32.ofInt 4), .int (zn 4)]) (ykc_55 (e := (0, .iconst 4, 0)) rfl) rfl rfl ?_
      refine w_ine (ykc_55 (e := (4, .if_icmp .ne 17, 86)) rfl) rfl (fun q => by exfalso; omega) (fun b1694 => ?_)
      refine w_load (pc' := 73) (v := .int (zn i)) (m := 1) (ykc_55 (e := (2, .iload_n kF3, 0)) rfl) rfl rfl ?_
      refine w_alu (pc' := 74) (st' := [.int (Int32.ofInt 1), .int (zn i)]) (ykc_55 (e := (0, .iconst 1, 0)) rfl) rfl rfl ?_
      refine w_ine (ykc_55 (e := (4, .if_icmp .ne 12, 86)) rfl) rfl (fun b1695 => ?_) (fun b1695 => ?_)
      · refine w_alu (pc' := 87) (st' := [.int (Int32.ofInt 0)]) (ykc_55 (e := (0, .iconst 0, 0)) rfl) rfl rfl ?_
        refine w_store (pc' := 89) (L' := [some (.ref 154), some (.int x), some (.int (zn l)), some (.int (zn i)), some (.ref 5), some (.int (zn (l * 4 + i))), some (.int (Int32.ofInt 0))]) (st' := []) (m := 2) (ykc_55 (e := (3, .istore 6, 0)) rfl) rfl rfl ?_
        refine w_load (pc' := 91) (v := .int (Int32.ofInt 0)) (m := 2) (ykc_55 (e := (2, .iload 6, 0)) rfl) rfl rfl ?_
        refine w_zeq (ykc_55 (e := (4, .ifCond .eq 26, 117)) rfl) rfl (fun b1696 => ?_) (fun q => by exfalso; omega)
        refine w_alu (pc' := 118) (st' := [.int (Int32.ofInt 1)]) (ykc_55 (e := (0, .iconst 1, 0)) rfl) rfl rfl ?_
        refine w_br (pc' := 122) (st' := [.int (Int32.ofInt 1)]) (ykc_55 (e := (4, .goto 4, 122)) rfl) rfl ?_
        refine w_ret (v := (some (.int (Int32.ofInt 1)))) (ykc_55 (e := (7, .ireturn, 0)) rfl) zr_z ?_
        rw [hQ, zi1]
        exact ⟨zFr_st u1692 (Or.inl (by simp)), Or.inl ⟨zLk_1 (by omega) (Or.inl (by omega)), rfl, hu⟩⟩
      · refine w_load (pc' := 79) (v := .int (zn (l * 4 + i))) (m := 2) (ykc_55 (e := (2, .iload 5, 0)) rfl) rfl rfl ?_
        refine w_zle (ykc_55 (e := (4, .ifCond .le 7, 86)) rfl) rfl (fun q => by exfalso; omega) (fun b1697 => ?_)
        refine w_alu (pc' := 83) (st' := [.int (Int32.ofInt 1)]) (ykc_55 (e := (0, .iconst 1, 0)) rfl) rfl rfl ?_
        refine w_br (pc' := 87) (st' := [.int (Int32.ofInt 1)]) (ykc_55 (e := (4, .goto 4, 87)) rfl) rfl ?_
        refine w_store (pc' := 89) (L' := [some (.ref 154), some (.int x), some (.int (zn l)), some (.int (zn i)), some (.ref 5), some (.int (zn (l * 4 + i))), some (.int (Int32.ofInt 1))]) (st' := []) (m := 2) (ykc_55 (e := (3, .istore 6, 0)) rfl) rfl rfl ?_
        refine w_load (pc' := 91) (v := .int (Int32.ofInt 1)) (m := 2) (ykc_55 (e := (2, .iload 6, 0)) rfl) rfl rfl ?_
        refine w_zeq (ykc_55 (e := (4, .ifCond .eq 26, 117)) rfl) rfl (fun q => by exfalso; omega) (fun b1698 => ?_)
        have i1 : i = 1 := by omega
        subst i1
        obtain ⟨hk0, hp0⟩ := hpr rfl
        have hk0 := zLk_d hk0
        rw [Nat.add_zero] at hk0
        have l0 : zLb R C 0 = R := rfl
        have l1 : zLb R C 1 = C := rfl
        have hd0 := znt (k := t (5 * l) - 48) (by omega)
        have hd1 := znt (k := t (5 * l + 1) - 48) (by omega)
        show zW n D 55 Q 94 [some (.ref 154), some (.int x), some (.int (zn l)), some (.int (zn 1)), some (.ref 5), some (.int (zn (l * 4 + 1))), some (.int (Int32.ofInt 1))] [] ph1693
        refine w_load (pc' := 96) (v := .ref 5) (m := 2) (ykc_55 (e := (2, .aload 4, 0)) rfl) rfl rfl ?_
        refine w_load (pc' := 98) (v := .ref 5) (m := 2) (ykc_55 (e := (2, .aload 4, 0)) rfl) rfl rfl ?_
        refine w_load (pc' := 99) (v := .ref 154) (m := 1) (ykc_55 (e := (2, .aload_n kF0, 0)) rfl) rfl rfl ?_
        refine w_gf (pc' := 102) (v := .ref 155) (ykc_55 (e := (5, .getfield 11, 0)) rfl) rfl ((u1692.2.1 154 0 (fun q => absurd q.1 (by decide))).trans (zsg hS zs_154_0)) rfl ?_
        refine w_load (pc' := 104) (v := .int (zn (l * 4 + 1))) (m := 2) (ykc_55 (e := (2, .iload 5, 0)) rfl) rfl rfl ?_
        refine w_alu (pc' := 105) (st' := [.int (Int32.ofInt 1), .int (zn (l * 4 + 1)), .ref 155, .ref 5, .ref 5]) (ykc_55 (e := (0, .iconst 1, 0)) rfl) rfl rfl ?_
        have e1699 : (zn (l * 4 + 1)) - (Int32.ofInt 1) = zn (l * 4) := zsubN (a := l * 4 + 1) (b := 1) (znt (by omega)) c_1 (by omega)
        have te1699 := znt (k := l * 4) (by omega)
        refine w_alu (pc' := 106) (st' := [.int (zn (l * 4)), .ref 155, .ref 5, .ref 5]) (ykc_55 (e := (0, .isub, 0)) rfl) (by show some ([.int ((zn (l * 4 + 1)) - (Int32.ofInt 1)), .ref 155, .ref 5, .ref 5] : List Value) = _; rw [e1699]) rfl ?_
        refine w_ialk (pc' := 107) (k := l * 4) (ykc_55 (e := (5, .iaload, 0)) rfl) ((u1692.2.1 155 (l * 4) (fun q => by have q2 := q.2; omega)).trans hp0) (by omega) rfl ?_
        refine w_load (pc' := 108) (v := .int x) (m := 1) (ykc_55 (e := (2, .iload_n kF1, 0)) rfl) rfl rfl ?_
        refine w_cv (as := [.ref 5, .int (zn (t (5 * l) - 48)), .int x]) (r := [.ref 5]) (ykc_55 (e := (6, .invokevirtual 47, 0)) rfl) rfl rfl rfl rfl (zc_fat (zSh_F (zFr_st u1692 (Or.inl (by simp)) : zFr [155] [] _ _) (by decide +kernel) hS) (zCl_F (zFr_st u1692 (Or.inl (by simp)) : zFr [155] [] _ _) (by simp) (by intro i hi; simp) (by simp) hL0)) (fun v1700 ph1701 hv => ?_)
        obtain ⟨rfl, zf, rfl, ef⟩ := hv
        rw [show x.toInt = ((t (5 * l + 1) - 48 : Nat) : Int) by omega, hd0, zLf_c (by omega) (by omega) (by omega) (by omega)] at ef
        have lf := zLf_lt (R := R) (C := C) (t := t) (p := 5 * l) (by omega) (by omega) (by omega) (by omega)
        show zW n D 55 Q 111 [some (.ref 154), some (.int x), some (.int (zn l)), some (.int (zn 1)), some (.ref 5), some (.int (zn (l * 4 + 1))), some (.int (Int32.ofInt 1))] [.int zf, .ref 5] ph1693
        refine w_cv (as := [.ref 5, .int zf]) (r := []) (ykc_55 (e := (6, .invokevirtual 51, 0)) rfl) rfl rfl rfl rfl (zc_rock (zSh_F (zFr_st u1692 (Or.inl (by simp)) : zFr [155] [] _ _) (by decide +kernel) hS) (zCl_F (zFr_st u1692 (Or.inl (by simp)) : zFr [155] [] _ _) (by simp) (by intro i hi; simp) (by simp) hL0) (by omega)) (fun v1702 ph1703 hv => ?_)
        obtain ⟨rfl, rfl⟩ := hv
        rw [show (decide (0 ≤ zf.toInt) && rk zf.toInt.toNat) = rk (zLf C t (5 * l)) by rw [ef, Int.toNat_natCast, decide_eq_true (by omega)]; rfl]
        show zW n D 55 Q 114 [some (.ref 154), some (.int x), some (.int (zn l)), some (.int (zn 1)), some (.ref 5), some (.int (zn (l * 4 + 1))), some (.int (Int32.ofInt 1))] [.int (zI (rk (zLf C t (5 * l))))] ph1693
        refine w_bne (ykc_55 (e := (4, .ifCond .ne 7, 121)) rfl) rfl (fun b1704 => ?_) (fun b1704 => ?_)
        · have hrk := b1704
          refine w_alu (pc' := 122) (st' := [.int (Int32.ofInt 0)]) (ykc_55 (e := (0, .iconst 0, 0)) rfl) rfl rfl ?_
          refine w_ret (v := (some (.int (Int32.ofInt 0)))) (ykc_55 (e := (7, .ireturn, 0)) rfl) zr_z ?_
          rw [hQ, zi0]
          exact ⟨zFr_st u1692 (Or.inl (by simp)), Or.inr ⟨zLk_r ⟨rfl, by omega⟩ hrk, rfl⟩⟩
        · have hrk := b1704
          refine w_alu (pc' := 118) (st' := [.int (Int32.ofInt 1)]) (ykc_55 (e := (0, .iconst 1, 0)) rfl) rfl rfl ?_
          refine w_br (pc' := 122) (st' := [.int (Int32.ofInt 1)]) (ykc_55 (e := (4, .goto 4, 122)) rfl) rfl ?_
          refine w_ret (v := (some (.int (Int32.ofInt 1)))) (ykc_55 (e := (7, .ireturn, 0)) rfl) zr_z ?_
          rw [hQ, zi1]
          exact ⟨zFr_st u1692 (Or.inl (by simp)), Or.inl ⟨zLk_1 (by omega) (Or.inr hrk), rfl, hu⟩⟩
    · refine w_alu (pc' := 55) (st' := [.int (Int32.ofInt 0)]) (ykc_55 (e := (0, .iconst 0, 0)) rfl) rfl rfl ?_
      refine w_ret (v := (some (.int (Int32.ofInt 0)))) (ykc_55 (e := (7, .ireturn, 0)) rfl) zr_z ?_
      rw [hQ, zi0]
      exact ⟨zFr_refl, Or.inr ⟨zLk_0 (by omega), rfl⟩⟩
theorem zc_ldig4 {ph : pm_H} {l i d : Nat} {x y : Int32} (hS : zSh ph) (hw : zc ph 154 2 = some (.int (zn 4))) (hx : x.toInt = (l : Int)) (hy : y.toInt = (i : Int)) (hl : l < 8) (hi : i < 4) (hd : zc ph 155 (l * 4 + i) = some (.int (zn d))) : zM 53 [.ref 154, .int x, .int y] ph (fun v0 q => ph = q ∧ v0 = some (.int (zn d))) := by
  obtain ⟨Q, hQ⟩ : ∃ Q : Option Value → pm_H → Prop, Q = (fun v0 q => ph = q ∧ v0 = some (.int (zn d))) := ⟨_, rfl⟩
  rw [← hQ]
  refine zM_mk fun n D => ?_
  show zW n D 53 Q 0 [some (.ref 154), some (.int x), some (.int y), none] [] ph
  have c_0 : (Int32.ofInt (-1)).toInt = -1 := by decide
  have tw := znt (k := 4) (by omega)
  refine w_load (pc' := 1) (v := .int x) (m := 1) (ykc_53 (e := (2, .iload_n kF1, 0)) rfl) rfl rfl ?_
  refine w_load (pc' := 2) (v := .ref 154) (m := 1) (ykc_53 (e := (2, .aload_n kF0, 0)) rfl) rfl rfl ?_
  refine w_gf (pc' := 5) (v := .int (zn 4)) (ykc_53 (e := (5, .getfield 18, 0)) rfl) rfl hw rfl ?_
  have e1705 : x * (zn 4) = zn (l * 4) := zn_of (by rw [ti_mul (by rw [show x.toInt = ((l : Nat) : Int) by omega, show (zn 4).toInt = ((4 : Nat) : Int) by omega]; omega) (by rw [show x.toInt = ((l : Nat) : Int) by omega, show (zn 4).toInt = ((4 : Nat) : Int) by omega]; omega), show x.toInt = ((l : Nat) : Int) by omega, show (zn 4).toInt = ((4 : Nat) : Int) by omega] <;> omega)
  have te1705 := znt (k := l * 4) (by omega)
  refine w_alu (pc' := 6) (st' := [.int (zn (l * 4))]) (ykc_53 (e := (0, .imul, 0)) rfl) (by rw [← e1705]; rfl) rfl ?_
  refine w_load (pc' := 7) (v := .int y) (m := 1) (ykc_53 (e := (2, .iload_n kF2, 0)) rfl) rfl rfl ?_
  have e1706 : (zn (l * 4)) + y = zn (l * 4 + i) := (zaddN (a := l * 4) (b := i) (znt (by omega)) (by omega) (by omega)) 
  have te1706 := znt (k := l * 4 + i) (by omega)
  refine w_alu (pc' := 8) (st' := [.int (zn (l * 4 + i))]) (ykc_53 (e := (0, .iadd, 0)) rfl) (by rw [← e1706]; rfl) rfl ?_
  refine w_store (pc' := 9) (L' := [some (.ref 154), some (.int x), some (.int y), some (.int (zn (l * 4 + i)))]) (st' := []) (m := 1) (ykc_53 (e := (3, .istore_n kF3, 0)) rfl) rfl rfl ?_
  refine w_load (pc' := 10) (v := .int (zn (l * 4 + i))) (m := 1) (ykc_53 (e := (2, .iload_n kF3, 0)) rfl) rfl rfl ?_
  refine w_zlt (ykc_53 (e := (4, .ifCond .lt 21, 31)) rfl) rfl (fun q => by exfalso; omega) (fun b1707 => ?_)
  refine w_load (pc' := 14) (v := .int (zn (l * 4 + i))) (m := 1) (ykc_53 (e := (2, .iload_n kF3, 0)) rfl) rfl rfl ?_
  refine w_load (pc' := 15) (v := .ref 154) (m := 1) (ykc_53 (e := (2, .aload_n kF0, 0)) rfl) rfl rfl ?_
  refine w_gf (pc' := 18) (v := .ref 155) (ykc_53 (e := (5, .getfield 11, 0)) rfl) rfl (zsg hS zs_154_0) rfl ?_
  have cn1708 : (Int32.ofNat 32).toInt = 32 := by decide
  refine w_aln (ykc_53 (e := (5, .arraylength, 0)) rfl) (zsl hS zl_155) rfl ?_
  refine w_ige (ykc_53 (e := (4, .if_icmp .ge 12, 31)) rfl) rfl (fun q => by exfalso; omega) (fun b1709 => ?_)
  refine w_load (pc' := 23) (v := .ref 154) (m := 1) (ykc_53 (e := (2, .aload_n kF0, 0)) rfl) rfl rfl ?_
  refine w_gf (pc' := 26) (v := .ref 155) (ykc_53 (e := (5, .getfield 11, 0)) rfl) rfl (zsg hS zs_154_0) rfl ?_
  refine w_load (pc' := 27) (v := .int (zn (l * 4 + i))) (m := 1) (ykc_53 (e := (2, .iload_n kF3, 0)) rfl) rfl rfl ?_
  refine w_ialk (pc' := 28) (k := l * 4 + i) (ykc_53 (e := (5, .iaload, 0)) rfl) hd (by omega) rfl ?_
  refine w_br (pc' := 32) (st' := [.int (zn d)]) (ykc_53 (e := (4, .goto 4, 32)) rfl) rfl ?_
  refine w_ret (v := (some (.int (zn d)))) (ykc_53 (e := (7, .ireturn, 0)) rfl) (zr_v rfl) ?_
  rw [hQ]
  exact ⟨rfl, rfl⟩
theorem zc_lread4 {ph : pm_H} {R C ln : Nat} {rk : Nat → Bool} {t : Nat → Nat} (hS : zSh ph) (hL : zCl ph R C rk) (hT : zTc ph ln t) (hB : zBd ph) {zw zr : Int32} {room : Nat} (hzw : zw.toInt = 4) (hzr : zr.toInt = (room : Int)) (hroom : room ≤ 8) : zM 54 [.ref 154, .ref 1, .ref 5, .int zw, .int zr] ph (fun v0 q => zFr [155] [(154, 2), (156, 0), (156, 1)] ph q ∧ zc q 154 2 = some (.int (zn 4)) ∧ ∃ z : Int32, v0 = some (.int z) ∧ z.toInt = zLa R C rk 4 5 ln t room ∧ ∀ l : Nat, (l : Int) < zLa R C rk 4 5 ln t room → zLg R C rk 4 ln t (5 * l) 4 = 4 ∧ ∀ i, i < 4 → zc q 155 (l * 4 + i) = some (.int (zn (t (5 * l + i) - 48)))) := by
  obtain ⟨Q, hQ⟩ : ∃ Q : Option Value → pm_H → Prop, Q = (fun v0 q => zFr [155] [(154, 2), (156, 0), (156, 1)] ph q ∧ zc q 154 2 = some (.int (zn 4)) ∧ ∃ z : Int32, v0 = some (.int z) ∧ z.toInt = zLa R C rk 4 5 ln t room ∧ ∀ l : Nat, (l : Int) < zLa R C rk 4 5 ln t room → zLg R C rk 4 ln t (5 * l) 4 = 4 ∧ ∀ i, i < 4 → zc q 155 (l * 4 + i) = some (.int (zn (t (5 * l + i) - 48)))) := ⟨_, rfl⟩
  rw [← hQ]
  refine zM_mk fun n D => ?_
  show zW n D 54 Q 0 [some (.ref 154), some (.ref 1), some (.ref 5), some (.int zw), some (.int zr), none, none, none, none] [] ph
  have c_0 : ((Int8.ofInt 59).toInt32).toInt = 59 := by decide
  have c_1 : ((Int8.ofInt 8).toInt32).toInt = 8 := by decide
  have c_2 : (Int32.ofInt (-1)).toInt = -1 := by decide
  have c_3 : (Int32.ofInt 0).toInt = 0 := by decide
  have c_4 : (Int32.ofInt 1).toInt = 1 := by decide
  have hRC49 : R * C ≤ 49 := zRC49 hL.2.2.2.2.2.2.1 hL.2.2.2.2.2.2.2.2
  have hR37 : 3 ≤ R ∧ R ≤ 7 := ⟨hL.2.2.2.2.2.1, hL.2.2.2.2.2.2.1⟩
  have hC37 : 3 ≤ C ∧ C ≤ 7 := hL.2.2.2.2.2.2.2
  obtain rfl : zw = zn 4 := zn_of hzw
  have tw := znt (k := 4) (by omega)
  have tR := znt (k := R) (by omega)
  have tC := znt (k := C) (by omega)
  have hT0 := hT
  show zW n D 54 Q 0 [some (.ref 154), some (.ref 1), some (.ref 5), some (.int (zn 4)), some (.int zr), none, none, none, none] [] ph
  obtain ⟨gn, hn80, gt⟩ := hT
  have tn := znt (k := ln) (by omega)
  refine w_load (pc' := 1) (v := .ref 154) (m := 1) (ykc_54 (e := (2, .aload_n kF0, 0)) rfl) rfl rfl ?_
  refine w_load (pc' := 2) (v := .int (zn 4)) (m := 1) (ykc_54 (e := (2, .iload_n kF3, 0)) rfl) rfl rfl ?_
  refine w_pf (pc' := 5) (ykc_54 (e := (5, .putfield 18, 0)) rfl) rfl rfl (fun ph1711 u1710 => ?_)
  refine w_load (pc' := 6) (v := .ref 154) (m := 1) (ykc_54 (e := (2, .aload_n kF0, 0)) rfl) rfl rfl ?_
  refine w_gf (pc' := 9) (v := .ref 156) (ykc_54 (e := (5, .getfield 15, 0)) rfl) rfl ((u1710.2.1 154 1 (fun q => absurd q.2 (by decide))).trans (zsg hS zs_154_1)) rfl ?_
  refine w_alu (pc' := 10) (st' := [.int (Int32.ofInt 0), .ref 156]) (ykc_54 (e := (0, .iconst 0, 0)) rfl) rfl rfl ?_
  refine w_load (pc' := 11) (v := .ref 5) (m := 1) (ykc_54 (e := (2, .aload_n kF2, 0)) rfl) rfl rfl ?_
  refine w_cv (as := [.ref 5]) (r := [.int (Int32.ofInt 0), .ref 156]) (ykc_54 (e := (6, .invokevirtual 22, 0)) rfl) rfl rfl rfl rfl (zc_rows (zSh_F ((zFr_st u1710 (Or.inr (by simp))) : zFr [155] [(154, 2), (156, 0), (156, 1)] ph _) (by decide +kernel) hS) (zCl_F ((zFr_st u1710 (Or.inr (by simp))) : zFr [155] [(154, 2), (156, 0), (156, 1)] ph _) (by simp) (by intro i hi; simp <;> omega) (by simp) hL)) (fun v1712 ph1713 hv => ?_)
  obtain ⟨rfl, rfl⟩ := hv
  show zW n D 54 Q 14 [some (.ref 154), some (.ref 1), some (.ref 5), some (.int (zn 4)), some (.int zr), none, none, none, none] [.int (zn R), .int (Int32.ofInt 0), .ref 156] ph1711
  refine w_ias (pc' := 15) (k := 0) (ykc_54 (e := (5, .iastore, 0)) rfl) (by omega) rfl (fun ph1715 u1714 => ?_)
  refine w_load (pc' := 16) (v := .ref 154) (m := 1) (ykc_54 (e := (2, .aload_n kF0, 0)) rfl) rfl rfl ?_
  refine w_gf (pc' := 19) (v := .ref 156) (ykc_54 (e := (5, .getfield 15, 0)) rfl) rfl ((u1714.2.1 154 1 (fun q => absurd q.1 (by decide))).trans ((u1710.2.1 154 1 (fun q => absurd q.2 (by decide))).trans (zsg hS zs_154_1))) rfl ?_
  refine w_alu (pc' := 20) (st' := [.int (Int32.ofInt 1), .ref 156]) (ykc_54 (e := (0, .iconst 1, 0)) rfl) rfl rfl ?_
  refine w_load (pc' := 21) (v := .ref 5) (m := 1) (ykc_54 (e := (2, .aload_n kF2, 0)) rfl) rfl rfl ?_
  refine w_cv (as := [.ref 5]) (r := [.int (Int32.ofInt 1), .ref 156]) (ykc_54 (e := (6, .invokevirtual 28, 0)) rfl) rfl rfl rfl rfl (zc_cols (zSh_F ((zFr_trans (zFr_st u1710 (Or.inr (by simp))) (zFr_st u1714 (Or.inr (by simp)))) : zFr [155] [(154, 2), (156, 0), (156, 1)] ph _) (by decide +kernel) hS) (zCl_F ((zFr_trans (zFr_st u1710 (Or.inr (by simp))) (zFr_st u1714 (Or.inr (by simp)))) : zFr [155] [(154, 2), (156, 0), (156, 1)] ph _) (by simp) (by intro i hi; simp <;> omega) (by simp) hL)) (fun v1716 ph1717 hv => ?_)
  obtain ⟨rfl, rfl⟩ := hv
  show zW n D 54 Q 24 [some (.ref 154), some (.ref 1), some (.ref 5), some (.int (zn 4)), some (.int zr), none, none, none, none] [.int (zn C), .int (Int32.ofInt 1), .ref 156] ph1715
  refine w_ias (pc' := 25) (k := 1) (ykc_54 (e := (5, .iastore, 0)) rfl) (by omega) rfl (fun ph1719 u1718 => ?_)
  refine w_load (pc' := 26) (v := .ref 1) (m := 1) (ykc_54 (e := (2, .aload_n kF1, 0)) rfl) rfl rfl ?_
  refine w_cv (as := [.ref 1]) (r := []) (ykc_54 (e := (6, .invokevirtual 31, 0)) rfl) rfl rfl rfl rfl (zc_tsize ((u1718.2.1 1 1 (fun q => absurd q.1 (by decide))).trans ((u1714.2.1 1 1 (fun q => absurd q.1 (by decide))).trans ((u1710.2.1 1 1 (fun q => absurd q.1 (by decide))).trans gn)))) (fun v1720 ph1721 hv => ?_)
  obtain ⟨rfl, rfl⟩ := hv
  show zW n D 54 Q 29 [some (.ref 154), some (.ref 1), some (.ref 5), some (.int (zn 4)), some (.int zr), none, none, none, none] [.int (zn ln)] ph1719
  refine w_store (pc' := 31) (L' := [some (.ref 154), some (.ref 1), some (.ref 5), some (.int (zn 4)), some (.int zr), some (.int (zn ln)), none, none, none]) (st' := []) (m := 2) (ykc_54 (e := (3, .istore 5, 0)) rfl) rfl rfl ?_
  refine w_load (pc' := 33) (v := .int (zn ln)) (m := 2) (ykc_54 (e := (2, .iload 5, 0)) rfl) rfl rfl ?_
  refine w_zne (ykc_54 (e := (4, .ifCond .ne 5, 38)) rfl) rfl (fun b1722 => ?_) (fun b1722 => ?_)
  · refine w_alu (pc' := 39) (st' := [.int (Int32.ofInt 0)]) (ykc_54 (e := (0, .iconst 0, 0)) rfl) rfl rfl ?_
    refine w_store (pc' := 41) (L' := [some (.ref 154), some (.ref 1), some (.ref 5), some (.int (zn 4)), some (.int zr), some (.int (zn ln)), some (.int (Int32.ofInt 0)), none, none]) (st' := []) (m := 2) (ykc_54 (e := (3, .istore 6, 0)) rfl) rfl rfl ?_
    refine w_alu (pc' := 42) (st' := [.int (Int32.ofInt 0)]) (ykc_54 (e := (0, .iconst 0, 0)) rfl) rfl rfl ?_
    refine w_store (pc' := 44) (L' := [some (.ref 154), some (.ref 1), some (.ref 5), some (.int (zn 4)), some (.int zr), some (.int (zn ln)), some (.int (Int32.ofInt 0)), some (.int (Int32.ofInt 0)), none]) (st' := []) (m := 2) (ykc_54 (e := (3, .istore 7, 0)) rfl) rfl rfl ?_
    have f1 : zFr [155] [(154, 2), (156, 0), (156, 1)] ph ph1719 := (zFr_trans (zFr_trans (zFr_st u1710 (Or.inr (by simp))) (zFr_st u1714 (Or.inr (by simp)))) (zFr_st u1718 (Or.inr (by simp))))
    have h1542 := ((u1718.2.1 154 2 (fun q => absurd q.1 (by decide))).trans ((u1714.2.1 154 2 (fun q => absurd q.1 (by decide))).trans u1710.1))
    have h1560 := ((u1718.2.1 156 0 (fun q => absurd q.2 (by decide))).trans u1714.1)
    have h1561 := u1718.1
    have e0 : zLa R C rk 4 5 ln t room = zLo R C rk 4 5 ln t room 9 0 := if_neg (by omega)
    have hb1 : ∀ i, i < 4 → zc ph1719 156 i = some (.int (zn (zLb R C i))) := fun i hi => by
      rcases (show i = 0 ∨ i = 1 ∨ i = 2 ∨ i = 3 by omega) with e | e | e | e <;> subst e
      · exact h1560
      · exact h1561
      · exact (f1.1 156 2 (by decide) (by decide)).trans hB.1
      · exact (f1.1 156 3 (by decide) (by decide)).trans hB.2
    have hl : ∀ (n : Nat), ∀ (l : Nat) (x8 : Option Value) (ph2 : pm_H), (l ≤ 7) → (l ≤ room) → (zFr [155] [] ph1719 ph2) → (zLa R C rk 4 5 ln t room = zLo R C rk 4 5 ln t room (9 - l) l) → (∀ j, j < l → zLg R C rk 4 ln t (5 * j) 4 = 4 ∧ ∀ i, i < 4 → zc ph2 155 (j * 4 + i) = some (.int (zn (t (5 * j + i) - 48)))) → zW n D 54 Q 44 [some (.ref 154), some (.ref 1), some (.ref 5), some (.int (zn 4)), some (.int zr), some (.int (zn ln)), some (.int (zn (5 * l))), some (.int (zn l)), x8] [] ph2 := by
      intro n
      induction n using Nat.strongRecOn with
      | ind n ih =>
        intro l x8 ph2 hl hlm hf ha hg
        have tl := znt (k := l) (by omega)
        have tsl := znt (k := 5 * l) (by omega)
        have f2 : zFr [155] [(154, 2), (156, 0), (156, 1)] ph ph2 := zFr_trans f1 (zFr_mono hf (by simp) (by simp))
        have hS2 := zSh_F f2 (by decide +kernel) hS
        have hL2 := zCl_F f2 (by simp) (by intro i hi; simp <;> omega) (by simp) hL
        have hT2 := zTc_F f2 (by simp) (by simp) (by simp) hT0
        have hin : l ≠ room → ∀ (n1 : Nat), n1 ≤ n → ∀ (i : Nat) (ph2 : pm_H), i ≤ 4 → (zFr [155] [] ph1719 ph2) → (∀ j, j < l → zLg R C rk 4 ln t (5 * j) 4 = 4 ∧ ∀ i, i < 4 → zc ph2 155 (j * 4 + i) = some (.int (zn (t (5 * j + i) - 48)))) → (zLg R C rk 4 ln t (5 * l) i = i) → (∀ k, k < i → zc ph2 155 (l * 4 + k) = some (.int (zn (t (5 * l + k) - 48)))) → zW n1 D 54 Q 61 [some (.ref 154), some (.ref 1), some (.ref 5), some (.int (zn 4)), some (.int zr), some (.int (zn ln)), some (.int (zn (5 * l + i))), some (.int (zn l)), some (.int (zn i))] [] ph2 := by
          intro hlr n1
          induction n1 using Nat.strongRecOn with
          | ind n1 ih1 =>
            intro hn1 i ph2 hi hf hg hgi hst
            have tl := znt (k := l) (by omega)
            have tsl := znt (k := 5 * l) (by omega)
            have f2 : zFr [155] [(154, 2), (156, 0), (156, 1)] ph ph2 := zFr_trans f1 (zFr_mono hf (by simp) (by simp))
            have hS2 := zSh_F f2 (by decide +kernel) hS
            have hL2 := zCl_F f2 (by simp) (by intro i hi; simp <;> omega) (by simp) hL
            have hT2 := zTc_F f2 (by simp) (by simp) (by simp) hT0
            have ti := znt (k := i) (by omega)
            have tsi := znt (k := 5 * l + i) (by omega)
            refine w_load (pc' := 63) (v := .int (zn i)) (m := 2) (ykc_54 (e := (2, .iload 8, 0)) rfl) rfl rfl ?_
            refine w_load (pc' := 64) (v := .ref 154) (m := 1) (ykc_54 (e := (2, .aload_n kF0, 0)) rfl) rfl rfl ?_
            refine w_gf (pc' := 67) (v := .int (zn 4)) (ykc_54 (e := (5, .getfield 18, 0)) rfl) rfl ((hf.1 154 2 (by decide) (by decide)).trans h1542) rfl ?_
            refine w_ige (ykc_54 (e := (4, .if_icmp .ge 35, 102)) rfl) rfl (fun b1723 => ?_) (fun b1723 => ?_)
            · have ei : i = 4 := by omega
              subst ei
              show zW n1 D 54 Q 102 [some (.ref 154), some (.ref 1), some (.ref 5), some (.int (zn 4)), some (.int zr), some (.int (zn ln)), some (.int (zn (5 * l + 4))), some (.int (zn l)), some (.int (zn 4))] [] ph2
              have hin9 : 5 * l + 4 ≤ ln := by have h := zLk_d (zLg_a hgi (4 - 1) (by omega)); omega
              refine w_load (pc' := 104) (v := .int (zn (5 * l + 4))) (m := 2) (ykc_54 (e := (2, .iload 6, 0)) rfl) rfl rfl ?_
              refine w_load (pc' := 106) (v := .int (zn ln)) (m := 2) (ykc_54 (e := (2, .iload 5, 0)) rfl) rfl rfl ?_
              refine w_ine (ykc_54 (e := (4, .if_icmp .ne 8, 114)) rfl) rfl (fun b1724 => ?_) (fun b1724 => ?_)
              · refine w_load (pc' := 116) (v := .int (zn l)) (m := 2) (ykc_54 (e := (2, .iload 7, 0)) rfl) rfl rfl ?_
                refine w_alu (pc' := 117) (st' := [.int (Int32.ofInt 1), .int (zn l)]) (ykc_54 (e := (0, .iconst 1, 0)) rfl) rfl rfl ?_
                have e1725 : (zn l) + (Int32.ofInt 1) = zn (l + 1) := (zaddN (a := l) (b := 1) (znt (by omega)) c_4 (by omega)) 
                have te1725 := znt (k := l + 1) (by omega)
                refine w_alu (pc' := 118) (st' := [.int (zn (l + 1))]) (ykc_54 (e := (0, .iadd, 0)) rfl) (by rw [← e1725]; rfl) rfl ?_
                refine w_push (pc' := 120) (v := .int ((Int8.ofInt 8).toInt32)) (m := 2) (ykc_54 (e := (1, .bipush 8, 0)) rfl) rfl rfl ?_
                refine w_ieq (ykc_54 (e := (4, .if_icmp .eq 14, 134)) rfl) rfl (fun b1726 => ?_) (fun b1726 => ?_)
                · refine w_alu (pc' := 135) (st' := [.int (Int32.ofInt (-1))]) (ykc_54 (e := (0, .iconst (-1), 0)) rfl) rfl rfl ?_
                  refine w_load (pc' := 137) (v := .int (zn (5 * l + 4))) (m := 2) (ykc_54 (e := (2, .iload 6, 0)) rfl) rfl rfl ?_
                  obtain ⟨z1727, e_z1727, h_z1727⟩ : ∃ zq : Int32, (Int32.ofInt (-1)) - (zn (5 * l + 4)) = zq ∧ zq.toInt = (-1 : Int) - ((5 * l + 4 : Nat) : Int) := ⟨_, rfl, zm1sub (by omega) (by omega) (by omega)⟩
                  refine w_alu (pc' := 138) (st' := [.int z1727]) (ykc_54 (e := (0, .isub, 0)) rfl) (by rw [← e_z1727]; rfl) rfl ?_
                  refine w_ret (v := (some (.int z1727))) (ykc_54 (e := (7, .ireturn, 0)) rfl) (zr_v rfl) ?_
                  have h8 := ha.trans (zLo_3 (by omega) hlr hgi (by omega) (by omega))
                  rw [hQ]
                  refine ⟨f2, (hf.1 154 2 (by decide) (by decide)).trans h1542, _, rfl, ?_, ?_⟩
                  · rw [h8]; omega
                  · intro j hj
                    rw [h8] at hj
                    exact absurd hj (by omega)
                · refine w_load (pc' := 124) (v := .ref 1) (m := 1) (ykc_54 (e := (2, .aload_n kF1, 0)) rfl) rfl rfl ?_
                  refine w_load (pc' := 126) (v := .int (zn (5 * l + 4))) (m := 2) (ykc_54 (e := (2, .iload 6, 0)) rfl) rfl rfl ?_
                  refine w_cv (as := [.ref 1, .int (zn (5 * l + 4))]) (r := []) (ykc_54 (e := (6, .invokevirtual 44, 0)) rfl) rfl rfl rfl rfl (zc_at hS2 hT2 (k := 5 * l + 4) (by omega)) (fun v1728 ph1729 hv => ?_)
                  obtain ⟨rfl, xa, rfl, exa⟩ := hv
                  have da := @zTi_c ln (5 * l + 4) t
                  have ba := @zTi_b ln (5 * l + 4) t (fun h => (gt _ h).2)
                  show zW n1 D 54 Q 129 [some (.ref 154), some (.ref 1), some (.ref 5), some (.int (zn 4)), some (.int zr), some (.int (zn ln)), some (.int (zn (5 * l + 4))), some (.int (zn l)), some (.int (zn 4))] [.int xa] ph2
                  refine w_push (pc' := 131) (v := .int ((Int8.ofInt 59).toInt32)) (m := 2) (ykc_54 (e := (1, .bipush 59, 0)) rfl) rfl rfl ?_
                  refine w_ieq (ykc_54 (e := (4, .if_icmp .eq 8, 139)) rfl) rfl (fun b1730 => ?_) (fun b1730 => ?_)
                  · have e1731 : (zn (5 * l + 4)) + Int32.ofInt 1 = zn (5 * l + 4 + 1) := (zaddN (a := 5 * l + 4) (b := 1) (znt (by omega)) c_4 (by omega))
                    have te1731 := znt (k := 5 * l + 4 + 1) (by omega)
                    refine w_store (pc' := 142) (L' := [some (.ref 154), some (.ref 1), some (.ref 5), some (.int (zn 4)), some (.int zr), some (.int (zn ln)), some (.int (zn (5 * l + 4 + 1))), some (.int (zn l)), some (.int (zn 4))]) (st' := []) (m := 3) (ykc_54 (e := (3, .iinc 6 1, 0)) rfl) (by rw [← e1731]; rfl) rfl ?_
                    have e1732 : (zn l) + Int32.ofInt 1 = zn (l + 1) := (zaddN (a := l) (b := 1) (znt (by omega)) c_4 (by omega))
                    have te1732 := znt (k := l + 1) (by omega)
                    refine w_store (pc' := 145) (L' := [some (.ref 154), some (.ref 1), some (.ref 5), some (.int (zn 4)), some (.int zr), some (.int (zn ln)), some (.int (zn (5 * l + 4 + 1))), some (.int (zn (l + 1))), some (.int (zn 4))]) (st' := []) (m := 3) (ykc_54 (e := (3, .iinc 7 1, 0)) rfl) (by rw [← e1732]; rfl) rfl ?_
                    refine w_gb (ykc_54 (e := (4, .goto (-101), 44)) rfl) (fun k1733 hk1733 => ?_)
                    have h8 := ha.trans (zLo_4 (by omega) hlr hgi (by omega) (by omega))
                    rw [show 5 * l + 4 + 1 = 5 * (l + 1) by omega]
                    exact ih k1733 (by omega) (l + 1) _ ph2 (by omega) (by omega) hf h8 (fun j hj => by
                      by_cases e : j = l
                      · subst e; exact ⟨hgi, hst⟩
                      · exact hg j (by omega))
                  · refine w_alu (pc' := 135) (st' := [.int (Int32.ofInt (-1))]) (ykc_54 (e := (0, .iconst (-1), 0)) rfl) rfl rfl ?_
                    refine w_load (pc' := 137) (v := .int (zn (5 * l + 4))) (m := 2) (ykc_54 (e := (2, .iload 6, 0)) rfl) rfl rfl ?_
                    obtain ⟨z1734, e_z1734, h_z1734⟩ : ∃ zq : Int32, (Int32.ofInt (-1)) - (zn (5 * l + 4)) = zq ∧ zq.toInt = (-1 : Int) - ((5 * l + 4 : Nat) : Int) := ⟨_, rfl, zm1sub (by omega) (by omega) (by omega)⟩
                    refine w_alu (pc' := 138) (st' := [.int z1734]) (ykc_54 (e := (0, .isub, 0)) rfl) (by rw [← e_z1734]; rfl) rfl ?_
                    refine w_ret (v := (some (.int z1734))) (ykc_54 (e := (7, .ireturn, 0)) rfl) (zr_v rfl) ?_
                    have h8 := ha.trans (zLo_3 (by omega) hlr hgi (by omega) (by omega))
                    rw [hQ]
                    refine ⟨f2, (hf.1 154 2 (by decide) (by decide)).trans h1542, _, rfl, ?_, ?_⟩
                    · rw [h8]; omega
                    · intro j hj
                      rw [h8] at hj
                      exact absurd hj (by omega)
              · refine w_load (pc' := 111) (v := .int (zn l)) (m := 2) (ykc_54 (e := (2, .iload 7, 0)) rfl) rfl rfl ?_
                refine w_alu (pc' := 112) (st' := [.int (Int32.ofInt 1), .int (zn l)]) (ykc_54 (e := (0, .iconst 1, 0)) rfl) rfl rfl ?_
                have e1735 : (zn l) + (Int32.ofInt 1) = zn (l + 1) := (zaddN (a := l) (b := 1) (znt (by omega)) c_4 (by omega)) 
                have te1735 := znt (k := l + 1) (by omega)
                refine w_alu (pc' := 113) (st' := [.int (zn (l + 1))]) (ykc_54 (e := (0, .iadd, 0)) rfl) (by rw [← e1735]; rfl) rfl ?_
                refine w_ret (v := (some (.int (zn (l + 1))))) (ykc_54 (e := (7, .ireturn, 0)) rfl) (zr_v rfl) ?_
                have h8 := ha.trans (zLo_2 (by omega) hlr hgi (by omega))
                rw [hQ]
                refine ⟨f2, (hf.1 154 2 (by decide) (by decide)).trans h1542, _, rfl, ?_, ?_⟩
                · rw [h8]; omega
                · intro j hj
                  rw [h8] at hj
                  by_cases e : j = l
                  · subst e; exact ⟨hgi, hst⟩
                  · exact hg j (by omega)
              
            · refine w_load (pc' := 71) (v := .ref 154) (m := 1) (ykc_54 (e := (2, .aload_n kF0, 0)) rfl) rfl rfl ?_
              refine w_load (pc' := 72) (v := .ref 1) (m := 1) (ykc_54 (e := (2, .aload_n kF1, 0)) rfl) rfl rfl ?_
              refine w_load (pc' := 74) (v := .int (zn (5 * l + i))) (m := 2) (ykc_54 (e := (2, .iload 6, 0)) rfl) rfl rfl ?_
              refine w_cv (as := [.ref 1, .int (zn (5 * l + i))]) (r := [.ref 154]) (ykc_54 (e := (6, .invokevirtual 36, 0)) rfl) rfl rfl rfl rfl (zc_digit hS2 hT2 (k := 5 * l + i) (by omega)) (fun v1737 ph1738 hv => ?_)
              obtain ⟨rfl, xd, rfl, exd⟩ := hv
              show zW n1 D 54 Q 77 [some (.ref 154), some (.ref 1), some (.ref 5), some (.int (zn 4)), some (.int zr), some (.int (zn ln)), some (.int (zn (5 * l + i))), some (.int (zn l)), some (.int (zn i))] [.int xd, .ref 154] ph2
              refine w_load (pc' := 79) (v := .int (zn l)) (m := 2) (ykc_54 (e := (2, .iload 7, 0)) rfl) rfl rfl ?_
              refine w_load (pc' := 81) (v := .int (zn i)) (m := 2) (ykc_54 (e := (2, .iload 8, 0)) rfl) rfl rfl ?_
              refine w_load (pc' := 82) (v := .ref 5) (m := 1) (ykc_54 (e := (2, .aload_n kF2, 0)) rfl) rfl rfl ?_
              refine w_cv (as := [.ref 154, .int xd, .int (zn l), .int (zn i), .ref 5]) (r := []) (ykc_54 (e := (6, .invokevirtual 40, 0)) rfl) rfl rfl rfl rfl (zc_tdig4 hS2 hL2 (by omega) (by omega) ((hf.1 154 2 (by decide) (by decide)).trans h1542) (fun i hi => (hf.1 156 i (by decide) (by simp)).trans (hb1 i hi)) exd (fun e => by subst e; exact ⟨zLg_a hgi 0 (by omega), by have h := hst 0 (by omega); simpa using h⟩)) (fun v1739 ph1740 hv => ?_)
              rcases hv with ⟨ftd, ⟨hk9, rfl, htd⟩ | ⟨hk9, rfl⟩⟩
              · show zW n1 D 54 Q 85 [some (.ref 154), some (.ref 1), some (.ref 5), some (.int (zn 4)), some (.int zr), some (.int (zn ln)), some (.int (zn (5 * l + i))), some (.int (zn l)), some (.int (zn i))] [.int (zI true)] ph1740
                refine w_bne (ykc_54 (e := (4, .ifCond .ne 8, 93)) rfl) rfl (fun b1741 => ?_) (fun q => absurd q (by decide))
                have e1742 : (zn (5 * l + i)) + Int32.ofInt 1 = zn (5 * l + i + 1) := (zaddN (a := 5 * l + i) (b := 1) (znt (by omega)) c_4 (by omega))
                have te1742 := znt (k := 5 * l + i + 1) (by omega)
                refine w_store (pc' := 96) (L' := [some (.ref 154), some (.ref 1), some (.ref 5), some (.int (zn 4)), some (.int zr), some (.int (zn ln)), some (.int (zn (5 * l + i + 1))), some (.int (zn l)), some (.int (zn i))]) (st' := []) (m := 3) (ykc_54 (e := (3, .iinc 6 1, 0)) rfl) (by rw [← e1742]; rfl) rfl ?_
                have e1743 : (zn i) + Int32.ofInt 1 = zn (i + 1) := (zaddN (a := i) (b := 1) (znt (by omega)) c_4 (by omega))
                have te1743 := znt (k := i + 1) (by omega)
                refine w_store (pc' := 99) (L' := [some (.ref 154), some (.ref 1), some (.ref 5), some (.int (zn 4)), some (.int zr), some (.int (zn ln)), some (.int (zn (5 * l + i + 1))), some (.int (zn l)), some (.int (zn (i + 1)))]) (st' := []) (m := 3) (ykc_54 (e := (3, .iinc 8 1, 0)) rfl) (by rw [← e1743]; rfl) rfl ?_
                refine w_gb (ykc_54 (e := (4, .goto (-38), 61)) rfl) (fun k1744 hk1744 => ?_)
                exact ih1 k1744 hk1744 (by omega) (i + 1) _ (by omega) (zFr_trans hf ftd) (fun j hj => ⟨(hg j hj).1, fun k hk9 => (htd.2.1 155 (j * 4 + k) (fun q => by have q2 := q.2; omega)).trans ((hg j hj).2 k hk9)⟩) (zLg_s hgi hk9) (fun k hk => by
                  by_cases e : k = i
                  · subst e; exact htd.1
                  · exact (htd.2.1 155 (l * 4 + k) (fun q => e (by have q2 := q.2; omega))).trans (hst k (by omega)))
              · show zW n1 D 54 Q 85 [some (.ref 154), some (.ref 1), some (.ref 5), some (.int (zn 4)), some (.int zr), some (.int (zn ln)), some (.int (zn (5 * l + i))), some (.int (zn l)), some (.int (zn i))] [.int (zI false)] ph1740
                refine w_bne (ykc_54 (e := (4, .ifCond .ne 8, 93)) rfl) rfl (fun q => absurd q (by decide)) (fun b1745 => ?_)
                refine w_alu (pc' := 89) (st' := [.int (Int32.ofInt (-1))]) (ykc_54 (e := (0, .iconst (-1), 0)) rfl) rfl rfl ?_
                refine w_load (pc' := 91) (v := .int (zn (5 * l + i))) (m := 2) (ykc_54 (e := (2, .iload 6, 0)) rfl) rfl rfl ?_
                obtain ⟨z1746, e_z1746, h_z1746⟩ : ∃ zq : Int32, (Int32.ofInt (-1)) - (zn (5 * l + i)) = zq ∧ zq.toInt = (-1 : Int) - ((5 * l + i : Nat) : Int) := ⟨_, rfl, zm1sub (by omega) (by omega) (by omega)⟩
                refine w_alu (pc' := 92) (st' := [.int z1746]) (ykc_54 (e := (0, .isub, 0)) rfl) (by rw [← e_z1746]; rfl) rfl ?_
                refine w_ret (v := (some (.int z1746))) (ykc_54 (e := (7, .ireturn, 0)) rfl) (zr_v rfl) ?_
                have hlg : zLg R C rk 4 ln t (5 * l) 4 = i := by
                  have h := zLg_f hgi hk9 (4 - 1 - i)
                  rwa [show i + 1 + (4 - 1 - i) = 4 by omega] at h
                have h8 := ha.trans (zLo_1 (by omega) hlr (by omega))
                rw [hlg] at h8
                have f3 := zFr_trans f2 (zFr_mono ftd (by simp) (by simp) : zFr [155] [(154, 2), (156, 0), (156, 1)] ph2 _)
                rw [hQ]
                refine ⟨zFr_trans f2 (zFr_mono ftd (by simp) (by simp)), (ftd.1 154 2 (by decide) (by decide)).trans ((hf.1 154 2 (by decide) (by decide)).trans h1542), _, rfl, ?_, ?_⟩
                · rw [h8]; omega
                · intro j hj
                  rw [h8] at hj
                  exact absurd hj (by omega)
              
        refine w_load (pc' := 46) (v := .int (zn l)) (m := 2) (ykc_54 (e := (2, .iload 7, 0)) rfl) rfl rfl ?_
        refine w_push (pc' := 48) (v := .int ((Int8.ofInt 8).toInt32)) (m := 2) (ykc_54 (e := (1, .bipush 8, 0)) rfl) rfl rfl ?_
        refine w_ige (ykc_54 (e := (4, .if_icmp .ge 100, 148)) rfl) rfl (fun b1747 => ?_) (fun b1747 => ?_)
        · exfalso; omega
          
        · refine w_load (pc' := 53) (v := .int (zn l)) (m := 2) (ykc_54 (e := (2, .iload 7, 0)) rfl) rfl rfl ?_
          refine w_load (pc' := 55) (v := .int zr) (m := 2) (ykc_54 (e := (2, .iload 4, 0)) rfl) rfl rfl ?_
          refine w_ige (ykc_54 (e := (4, .if_icmp .ge 93, 148)) rfl) rfl (fun b1748 => ?_) (fun b1748 => ?_)
          · have hr : l = room := by omega
            refine w_alu (pc' := 149) (st' := [.int (Int32.ofInt (-1))]) (ykc_54 (e := (0, .iconst (-1), 0)) rfl) rfl rfl ?_
            refine w_load (pc' := 151) (v := .int (zn (5 * l))) (m := 2) (ykc_54 (e := (2, .iload 6, 0)) rfl) rfl rfl ?_
            obtain ⟨z1749, e_z1749, h_z1749⟩ : ∃ zq : Int32, (Int32.ofInt (-1)) - (zn (5 * l)) = zq ∧ zq.toInt = (-1 : Int) - ((5 * l : Nat) : Int) := ⟨_, rfl, zm1sub (by omega) (by omega) (by omega)⟩
            refine w_alu (pc' := 152) (st' := [.int z1749]) (ykc_54 (e := (0, .isub, 0)) rfl) (by rw [← e_z1749]; rfl) rfl ?_
            refine w_ret (v := (some (.int z1749))) (ykc_54 (e := (7, .ireturn, 0)) rfl) (zr_v rfl) ?_
            have h8 := ha.trans (zLo_0 (by omega) hr)
            rw [hQ]
            refine ⟨f2, (hf.1 154 2 (by decide) (by decide)).trans h1542, _, rfl, ?_, ?_⟩
            · rw [h8]; omega
            · intro j hj
              rw [h8] at hj
              exact absurd hj (by omega)
            
          · refine w_alu (pc' := 59) (st' := [.int (Int32.ofInt 0)]) (ykc_54 (e := (0, .iconst 0, 0)) rfl) rfl rfl ?_
            refine w_store (pc' := 61) (L' := [some (.ref 154), some (.ref 1), some (.ref 5), some (.int (zn 4)), some (.int zr), some (.int (zn ln)), some (.int (zn (5 * l))), some (.int (zn l)), some (.int (Int32.ofInt 0))]) (st' := []) (m := 2) (ykc_54 (e := (3, .istore 8, 0)) rfl) rfl rfl ?_
            exact hin (by omega) _ (Nat.le_refl _) 0 ph2 (Nat.zero_le _) hf hg rfl (fun k hk => absurd hk (Nat.not_lt_zero k))
    exact hl n 0 _ ph1719 (Nat.zero_le _) (Nat.zero_le _) zFr_refl e0 (fun j hj => absurd hj (Nat.not_lt_zero j))
  · refine w_alu (pc' := 37) (st' := [.int (Int32.ofInt 0)]) (ykc_54 (e := (0, .iconst 0, 0)) rfl) rfl rfl ?_
    refine w_ret (v := (some (.int (Int32.ofInt 0)))) (ykc_54 (e := (7, .ireturn, 0)) rfl) (zr_v rfl) ?_
    have e0 : zLa R C rk 4 5 ln t room = 0 := if_pos (by omega)
    rw [hQ]
    exact ⟨(zFr_trans (zFr_trans (zFr_st u1710 (Or.inr (by simp))) (zFr_st u1714 (Or.inr (by simp)))) (zFr_st u1718 (Or.inr (by simp)))), ((u1718.2.1 154 2 (fun q => absurd q.1 (by decide))).trans ((u1714.2.1 154 2 (fun q => absurd q.1 (by decide))).trans u1710.1)), _, rfl, by rw [e0]; omega, fun l hl => absurd hl (by rw [e0]; omega)⟩
theorem zc_tdig2 {ph : pm_H} {R C ln : Nat} {rk : Nat → Bool} {t : Nat → Nat} (hS : zSh ph) (hL : zCl ph R C rk) {l i : Nat} {x : Int32} (hl8 : l < 8) (hi : i < 2) (hw : zc ph 154 2 = some (.int (zn 2))) (hb : ∀ i, i < 2 → zc ph 156 i = some (.int (zn (zLb R C i)))) (hx : x.toInt = zDi ln t (3 * l + i)) (hpr : i = 1 → zLk R C rk 2 ln t (3 * l) 0 = true ∧ zc ph 155 (l * 2) = some (.int (zn (t (3 * l) - 48)))) : zM 55 [.ref 154, .int x, .int (zn l), .int (zn i), .ref 5] ph (fun v0 q => zFr [155] [] ph q ∧ ((zLk R C rk 2 ln t (3 * l) i = true ∧ v0 = some (.int (zI true)) ∧ zst ph q 155 (l * 2 + i) (.int (zn (t (3 * l + i) - 48)))) ∨ (zLk R C rk 2 ln t (3 * l) i = false ∧ v0 = some (.int (zI false))))) := by
  obtain ⟨Q, hQ⟩ : ∃ Q : Option Value → pm_H → Prop, Q = (fun v0 q => zFr [155] [] ph q ∧ ((zLk R C rk 2 ln t (3 * l) i = true ∧ v0 = some (.int (zI true)) ∧ zst ph q 155 (l * 2 + i) (.int (zn (t (3 * l + i) - 48)))) ∨ (zLk R C rk 2 ln t (3 * l) i = false ∧ v0 = some (.int (zI false))))) := ⟨_, rfl⟩
  rw [← hQ]
  refine zM_mk fun n D => ?_
  show zW n D 55 Q 0 [some (.ref 154), some (.int x), some (.int (zn l)), some (.int (zn i)), some (.ref 5), none, none] [] ph
  have c_0 : (Int32.ofInt 0).toInt = 0 := by decide
  have c_1 : (Int32.ofInt 1).toInt = 1 := by decide
  have c_2 : (Int32.ofInt 4).toInt = 4 := by decide
  obtain ⟨gR, gC, gN, gK, gA, hR3, hR7, hC3, hC7⟩ := hL
  have hL0 : zCl ph R C rk := ⟨gR, gC, gN, gK, gA, hR3, hR7, hC3, hC7⟩
  have hRC := zRC49 hR7 hC7
  have tl := znt (k := l) (by omega)
  have ti := znt (k := i) (by omega)
  have tw := znt (k := 2) (by omega)
  have d9 := @zDi_c ln (3 * l + i) t
  have b9 := @zLb_b R C i hR7 hC7
  have tb9 := znt (k := zLb R C i) (by omega)
  refine w_load (pc' := 1) (v := .int (zn l)) (m := 1) (ykc_55 (e := (2, .iload_n kF2, 0)) rfl) rfl rfl ?_
  refine w_load (pc' := 2) (v := .ref 154) (m := 1) (ykc_55 (e := (2, .aload_n kF0, 0)) rfl) rfl rfl ?_
  refine w_gf (pc' := 5) (v := .int (zn 2)) (ykc_55 (e := (5, .getfield 18, 0)) rfl) rfl hw rfl ?_
  have e1750 : (zn l) * (zn 2) = zn (l * 2) := zn_of (by rw [ti_mul (by rw [show (zn l).toInt = ((l : Nat) : Int) by omega, show (zn 2).toInt = ((2 : Nat) : Int) by omega]; omega) (by rw [show (zn l).toInt = ((l : Nat) : Int) by omega, show (zn 2).toInt = ((2 : Nat) : Int) by omega]; omega), show (zn l).toInt = ((l : Nat) : Int) by omega, show (zn 2).toInt = ((2 : Nat) : Int) by omega] <;> omega)
  have te1750 := znt (k := l * 2) (by omega)
  refine w_alu (pc' := 6) (st' := [.int (zn (l * 2))]) (ykc_55 (e := (0, .imul, 0)) rfl) (by rw [← e1750]; rfl) rfl ?_
  refine w_load (pc' := 7) (v := .int (zn i)) (m := 1) (ykc_55 (e := (2, .iload_n kF3, 0)) rfl) rfl rfl ?_
  have e1751 : (zn (l * 2)) + (zn i) = zn (l * 2 + i) := (zaddN (a := l * 2) (b := i) (znt (by omega)) (znt (by omega)) (by omega)) 
  have te1751 := znt (k := l * 2 + i) (by omega)
  refine w_alu (pc' := 8) (st' := [.int (zn (l * 2 + i))]) (ykc_55 (e := (0, .iadd, 0)) rfl) (by rw [← e1751]; rfl) rfl ?_
  refine w_store (pc' := 10) (L' := [some (.ref 154), some (.int x), some (.int (zn l)), some (.int (zn i)), some (.ref 5), some (.int (zn (l * 2 + i))), none]) (st' := []) (m := 2) (ykc_55 (e := (3, .istore 5, 0)) rfl) rfl rfl ?_
  refine w_load (pc' := 11) (v := .int (zn i)) (m := 1) (ykc_55 (e := (2, .iload_n kF3, 0)) rfl) rfl rfl ?_
  refine w_zlt (ykc_55 (e := (4, .ifCond .lt 27, 38)) rfl) rfl (fun q => by exfalso; omega) (fun b1752 => ?_)
  refine w_load (pc' := 15) (v := .int (zn i)) (m := 1) (ykc_55 (e := (2, .iload_n kF3, 0)) rfl) rfl rfl ?_
  refine w_load (pc' := 16) (v := .ref 154) (m := 1) (ykc_55 (e := (2, .aload_n kF0, 0)) rfl) rfl rfl ?_
  refine w_gf (pc' := 19) (v := .ref 156) (ykc_55 (e := (5, .getfield 15, 0)) rfl) rfl (zsg hS zs_154_1) rfl ?_
  have cn1753 : (Int32.ofNat 4).toInt = 4 := by decide
  refine w_aln (ykc_55 (e := (5, .arraylength, 0)) rfl) (zsl hS zl_156) rfl ?_
  refine w_ige (ykc_55 (e := (4, .if_icmp .ge 18, 38)) rfl) rfl (fun q => by exfalso; omega) (fun b1754 => ?_)
  refine w_load (pc' := 25) (v := .int (zn (l * 2 + i))) (m := 2) (ykc_55 (e := (2, .iload 5, 0)) rfl) rfl rfl ?_
  refine w_zlt (ykc_55 (e := (4, .ifCond .lt 13, 38)) rfl) rfl (fun q => by exfalso; omega) (fun b1755 => ?_)
  refine w_load (pc' := 30) (v := .int (zn (l * 2 + i))) (m := 2) (ykc_55 (e := (2, .iload 5, 0)) rfl) rfl rfl ?_
  refine w_load (pc' := 31) (v := .ref 154) (m := 1) (ykc_55 (e := (2, .aload_n kF0, 0)) rfl) rfl rfl ?_
  refine w_gf (pc' := 34) (v := .ref 155) (ykc_55 (e := (5, .getfield 11, 0)) rfl) rfl (zsg hS zs_154_0) rfl ?_
  have cn1756 : (Int32.ofNat 32).toInt = 32 := by decide
  refine w_aln (ykc_55 (e := (5, .arraylength, 0)) rfl) (zsl hS zl_155) rfl ?_
  refine w_ilt (ykc_55 (e := (4, .if_icmp .lt 5, 40)) rfl) rfl (fun b1757 => ?_) (fun q => by exfalso; omega)
  refine w_load (pc' := 41) (v := .int x) (m := 1) (ykc_55 (e := (2, .iload_n kF1, 0)) rfl) rfl rfl ?_
  refine w_zlt (ykc_55 (e := (4, .ifCond .lt 13, 54)) rfl) rfl (fun b1758 => ?_) (fun b1758 => ?_)
  · refine w_alu (pc' := 55) (st' := [.int (Int32.ofInt 0)]) (ykc_55 (e := (0, .iconst 0, 0)) rfl) rfl rfl ?_
    refine w_ret (v := (some (.int (Int32.ofInt 0)))) (ykc_55 (e := (7, .ireturn, 0)) rfl) zr_z ?_
    rw [hQ, zi0]
    exact ⟨zFr_refl, Or.inr ⟨zLk_0 (by omega), rfl⟩⟩
  · refine w_load (pc' := 45) (v := .int x) (m := 1) (ykc_55 (e := (2, .iload_n kF1, 0)) rfl) rfl rfl ?_
    refine w_load (pc' := 46) (v := .ref 154) (m := 1) (ykc_55 (e := (2, .aload_n kF0, 0)) rfl) rfl rfl ?_
    refine w_gf (pc' := 49) (v := .ref 156) (ykc_55 (e := (5, .getfield 15, 0)) rfl) rfl (zsg hS zs_154_1) rfl ?_
    refine w_load (pc' := 50) (v := .int (zn i)) (m := 1) (ykc_55 (e := (2, .iload_n kF3, 0)) rfl) rfl rfl ?_
    refine w_ialk (pc' := 51) (k := i) (ykc_55 (e := (5, .iaload, 0)) rfl) (hb i (by omega)) (by omega) rfl ?_
    refine w_ilt (ykc_55 (e := (4, .if_icmp .lt 5, 56)) rfl) rfl (fun b1759 => ?_) (fun b1759 => ?_)
    · have ex : x = zn (t (3 * l + i) - 48) := zn_of (by omega)
      refine w_load (pc' := 57) (v := .ref 154) (m := 1) (ykc_55 (e := (2, .aload_n kF0, 0)) rfl) rfl rfl ?_
      refine w_gf (pc' := 60) (v := .ref 155) (ykc_55 (e := (5, .getfield 11, 0)) rfl) rfl (zsg hS zs_154_0) rfl ?_
      refine w_load (pc' := 62) (v := .int (zn (l * 2 + i))) (m := 2) (ykc_55 (e := (2, .iload 5, 0)) rfl) rfl rfl ?_
      refine w_load (pc' := 63) (v := .int x) (m := 1) (ykc_55 (e := (2, .iload_n kF1, 0)) rfl) rfl rfl ?_
      refine w_ias (pc' := 64) (k := l * 2 + i) (ykc_55 (e := (5, .iastore, 0)) rfl) (by omega) rfl (fun ph1761 u1760 => ?_)
      have hu : zst ph ph1761 155 (l * 2 + i) (.int (zn (t (3 * l + i) - 48))) := by rw [← ex]; exact u1760
      refine w_load (pc' := 65) (v := .ref 154) (m := 1) (ykc_55 (e := (2, .aload_n kF0, 0)) rfl) rfl rfl ?_
      refine w_gf (pc' := 68) (v := .int (zn 2)) (ykc_55 (e := (5, .getfield 18, 0)) rfl) rfl ((u1760.2.1 154 2 (fun q => absurd q.1 (by decide))).trans hw) rfl ?_
      refine w_alu (pc' := 69) (st' := [.int (Int32.ofInt 4), .int (zn 2)]) (ykc_55 (e := (0, .iconst 4, 0)) rfl) rfl rfl ?_
      refine w_ine (ykc_55 (e := (4, .if_icmp .ne 17, 86)) rfl) rfl (fun b1762 => ?_) (fun q => by exfalso; omega)
      refine w_alu (pc' := 87) (st' := [.int (Int32.ofInt 0)]) (ykc_55 (e := (0, .iconst 0, 0)) rfl) rfl rfl ?_
      refine w_store (pc' := 89) (L' := [some (.ref 154), some (.int x), some (.int (zn l)), some (.int (zn i)), some (.ref 5), some (.int (zn (l * 2 + i))), some (.int (Int32.ofInt 0))]) (st' := []) (m := 2) (ykc_55 (e := (3, .istore 6, 0)) rfl) rfl rfl ?_
      refine w_load (pc' := 91) (v := .int (Int32.ofInt 0)) (m := 2) (ykc_55 (e := (2, .iload 6, 0)) rfl) rfl rfl ?_
      refine w_zeq (ykc_55 (e := (4, .ifCond .eq 26, 117)) rfl) rfl (fun b1763 => ?_) (fun q => by exfalso; omega)
      refine w_alu (pc' := 118) (st' := [.int (Int32.ofInt 1)]) (ykc_55 (e := (0, .iconst 1, 0)) rfl) rfl rfl ?_
      refine w_br (pc' := 122) (st' := [.int (Int32.ofInt 1)]) (ykc_55 (e := (4, .goto 4, 122)) rfl) rfl ?_
      refine w_ret (v := (some (.int (Int32.ofInt 1)))) (ykc_55 (e := (7, .ireturn, 0)) rfl) zr_z ?_
      rw [hQ, zi1]
      exact ⟨zFr_st u1760 (Or.inl (by simp)), Or.inl ⟨zLk_1 (by omega) (Or.inl (by omega)), rfl, hu⟩⟩
    · refine w_alu (pc' := 55) (st' := [.int (Int32.ofInt 0)]) (ykc_55 (e := (0, .iconst 0, 0)) rfl) rfl rfl ?_
      refine w_ret (v := (some (.int (Int32.ofInt 0)))) (ykc_55 (e := (7, .ireturn, 0)) rfl) zr_z ?_
      rw [hQ, zi0]
      exact ⟨zFr_refl, Or.inr ⟨zLk_0 (by omega), rfl⟩⟩
theorem zc_ldig2 {ph : pm_H} {l i d : Nat} {x y : Int32} (hS : zSh ph) (hw : zc ph 154 2 = some (.int (zn 2))) (hx : x.toInt = (l : Int)) (hy : y.toInt = (i : Int)) (hl : l < 8) (hi : i < 2) (hd : zc ph 155 (l * 2 + i) = some (.int (zn d))) : zM 53 [.ref 154, .int x, .int y] ph (fun v0 q => ph = q ∧ v0 = some (.int (zn d))) := by
  obtain ⟨Q, hQ⟩ : ∃ Q : Option Value → pm_H → Prop, Q = (fun v0 q => ph = q ∧ v0 = some (.int (zn d))) := ⟨_, rfl⟩
  rw [← hQ]
  refine zM_mk fun n D => ?_
  show zW n D 53 Q 0 [some (.ref 154), some (.int x), some (.int y), none] [] ph
  have c_0 : (Int32.ofInt (-1)).toInt = -1 := by decide
  have tw := znt (k := 2) (by omega)
  refine w_load (pc' := 1) (v := .int x) (m := 1) (ykc_53 (e := (2, .iload_n kF1, 0)) rfl) rfl rfl ?_
  refine w_load (pc' := 2) (v := .ref 154) (m := 1) (ykc_53 (e := (2, .aload_n kF0, 0)) rfl) rfl rfl ?_
  refine w_gf (pc' := 5) (v := .int (zn 2)) (ykc_53 (e := (5, .getfield 18, 0)) rfl) rfl hw rfl ?_
  have e1764 : x * (zn 2) = zn (l * 2) := zn_of (by rw [ti_mul (by rw [show x.toInt = ((l : Nat) : Int) by omega, show (zn 2).toInt = ((2 : Nat) : Int) by omega]; omega) (by rw [show x.toInt = ((l : Nat) : Int) by omega, show (zn 2).toInt = ((2 : Nat) : Int) by omega]; omega), show x.toInt = ((l : Nat) : Int) by omega, show (zn 2).toInt = ((2 : Nat) : Int) by omega] <;> omega)
  have te1764 := znt (k := l * 2) (by omega)
  refine w_alu (pc' := 6) (st' := [.int (zn (l * 2))]) (ykc_53 (e := (0, .imul, 0)) rfl) (by rw [← e1764]; rfl) rfl ?_
  refine w_load (pc' := 7) (v := .int y) (m := 1) (ykc_53 (e := (2, .iload_n kF2, 0)) rfl) rfl rfl ?_
  have e1765 : (zn (l * 2)) + y = zn (l * 2 + i) := (zaddN (a := l * 2) (b := i) (znt (by omega)) (by omega) (by omega)) 
  have te1765 := znt (k := l * 2 + i) (by omega)
  refine w_alu (pc' := 8) (st' := [.int (zn (l * 2 + i))]) (ykc_53 (e := (0, .iadd, 0)) rfl) (by rw [← e1765]; rfl) rfl ?_
  refine w_store (pc' := 9) (L' := [some (.ref 154), some (.int x), some (.int y), some (.int (zn (l * 2 + i)))]) (st' := []) (m := 1) (ykc_53 (e := (3, .istore_n kF3, 0)) rfl) rfl rfl ?_
  refine w_load (pc' := 10) (v := .int (zn (l * 2 + i))) (m := 1) (ykc_53 (e := (2, .iload_n kF3, 0)) rfl) rfl rfl ?_
  refine w_zlt (ykc_53 (e := (4, .ifCond .lt 21, 31)) rfl) rfl (fun q => by exfalso; omega) (fun b1766 => ?_)
  refine w_load (pc' := 14) (v := .int (zn (l * 2 + i))) (m := 1) (ykc_53 (e := (2, .iload_n kF3, 0)) rfl) rfl rfl ?_
  refine w_load (pc' := 15) (v := .ref 154) (m := 1) (ykc_53 (e := (2, .aload_n kF0, 0)) rfl) rfl rfl ?_
  refine w_gf (pc' := 18) (v := .ref 155) (ykc_53 (e := (5, .getfield 11, 0)) rfl) rfl (zsg hS zs_154_0) rfl ?_
  have cn1767 : (Int32.ofNat 32).toInt = 32 := by decide
  refine w_aln (ykc_53 (e := (5, .arraylength, 0)) rfl) (zsl hS zl_155) rfl ?_
  refine w_ige (ykc_53 (e := (4, .if_icmp .ge 12, 31)) rfl) rfl (fun q => by exfalso; omega) (fun b1768 => ?_)
  refine w_load (pc' := 23) (v := .ref 154) (m := 1) (ykc_53 (e := (2, .aload_n kF0, 0)) rfl) rfl rfl ?_
  refine w_gf (pc' := 26) (v := .ref 155) (ykc_53 (e := (5, .getfield 11, 0)) rfl) rfl (zsg hS zs_154_0) rfl ?_
  refine w_load (pc' := 27) (v := .int (zn (l * 2 + i))) (m := 1) (ykc_53 (e := (2, .iload_n kF3, 0)) rfl) rfl rfl ?_
  refine w_ialk (pc' := 28) (k := l * 2 + i) (ykc_53 (e := (5, .iaload, 0)) rfl) hd (by omega) rfl ?_
  refine w_br (pc' := 32) (st' := [.int (zn d)]) (ykc_53 (e := (4, .goto 4, 32)) rfl) rfl ?_
  refine w_ret (v := (some (.int (zn d)))) (ykc_53 (e := (7, .ireturn, 0)) rfl) (zr_v rfl) ?_
  rw [hQ]
  exact ⟨rfl, rfl⟩
theorem zc_lread2 {ph : pm_H} {R C ln : Nat} {rk : Nat → Bool} {t : Nat → Nat} (hS : zSh ph) (hL : zCl ph R C rk) (hT : zTc ph ln t) (hB : zBd ph) {zw zr : Int32} {room : Nat} (hzw : zw.toInt = 2) (hzr : zr.toInt = (room : Int)) (hroom : room ≤ 8) : zM 54 [.ref 154, .ref 1, .ref 5, .int zw, .int zr] ph (fun v0 q => zFr [155] [(154, 2), (156, 0), (156, 1)] ph q ∧ zc q 154 2 = some (.int (zn 2)) ∧ ∃ z : Int32, v0 = some (.int z) ∧ z.toInt = zLa R C rk 2 3 ln t room ∧ ∀ l : Nat, (l : Int) < zLa R C rk 2 3 ln t room → zLg R C rk 2 ln t (3 * l) 2 = 2 ∧ ∀ i, i < 2 → zc q 155 (l * 2 + i) = some (.int (zn (t (3 * l + i) - 48)))) := by
  obtain ⟨Q, hQ⟩ : ∃ Q : Option Value → pm_H → Prop, Q = (fun v0 q => zFr [155] [(154, 2), (156, 0), (156, 1)] ph q ∧ zc q 154 2 = some (.int (zn 2)) ∧ ∃ z : Int32, v0 = some (.int z) ∧ z.toInt = zLa R C rk 2 3 ln t room ∧ ∀ l : Nat, (l : Int) < zLa R C rk 2 3 ln t room → zLg R C rk 2 ln t (3 * l) 2 = 2 ∧ ∀ i, i < 2 → zc q 155 (l * 2 + i) = some (.int (zn (t (3 * l + i) - 48)))) := ⟨_, rfl⟩
  rw [← hQ]
  refine zM_mk fun n D => ?_
  show zW n D 54 Q 0 [some (.ref 154), some (.ref 1), some (.ref 5), some (.int zw), some (.int zr), none, none, none, none] [] ph
  have c_0 : ((Int8.ofInt 59).toInt32).toInt = 59 := by decide
  have c_1 : ((Int8.ofInt 8).toInt32).toInt = 8 := by decide
  have c_2 : (Int32.ofInt (-1)).toInt = -1 := by decide
  have c_3 : (Int32.ofInt 0).toInt = 0 := by decide
  have c_4 : (Int32.ofInt 1).toInt = 1 := by decide
  have hRC49 : R * C ≤ 49 := zRC49 hL.2.2.2.2.2.2.1 hL.2.2.2.2.2.2.2.2
  have hR37 : 3 ≤ R ∧ R ≤ 7 := ⟨hL.2.2.2.2.2.1, hL.2.2.2.2.2.2.1⟩
  have hC37 : 3 ≤ C ∧ C ≤ 7 := hL.2.2.2.2.2.2.2
  obtain rfl : zw = zn 2 := zn_of hzw
  have tw := znt (k := 2) (by omega)
  have tR := znt (k := R) (by omega)
  have tC := znt (k := C) (by omega)
  have hT0 := hT
  show zW n D 54 Q 0 [some (.ref 154), some (.ref 1), some (.ref 5), some (.int (zn 2)), some (.int zr), none, none, none, none] [] ph
  obtain ⟨gn, hn80, gt⟩ := hT
  have tn := znt (k := ln) (by omega)
  refine w_load (pc' := 1) (v := .ref 154) (m := 1) (ykc_54 (e := (2, .aload_n kF0, 0)) rfl) rfl rfl ?_
  refine w_load (pc' := 2) (v := .int (zn 2)) (m := 1) (ykc_54 (e := (2, .iload_n kF3, 0)) rfl) rfl rfl ?_
  refine w_pf (pc' := 5) (ykc_54 (e := (5, .putfield 18, 0)) rfl) rfl rfl (fun ph1770 u1769 => ?_)
  refine w_load (pc' := 6) (v := .ref 154) (m := 1) (ykc_54 (e := (2, .aload_n kF0, 0)) rfl) rfl rfl ?_
  refine w_gf (pc' := 9) (v := .ref 156) (ykc_54 (e := (5, .getfield 15, 0)) rfl) rfl ((u1769.2.1 154 1 (fun q => absurd q.2 (by decide))).trans (zsg hS zs_154_1)) rfl ?_
  refine w_alu (pc' := 10) (st' := [.int (Int32.ofInt 0), .ref 156]) (ykc_54 (e := (0, .iconst 0, 0)) rfl) rfl rfl ?_
  refine w_load (pc' := 11) (v := .ref 5) (m := 1) (ykc_54 (e := (2, .aload_n kF2, 0)) rfl) rfl rfl ?_
  refine w_cv (as := [.ref 5]) (r := [.int (Int32.ofInt 0), .ref 156]) (ykc_54 (e := (6, .invokevirtual 22, 0)) rfl) rfl rfl rfl rfl (zc_rows (zSh_F ((zFr_st u1769 (Or.inr (by simp))) : zFr [155] [(154, 2), (156, 0), (156, 1)] ph _) (by decide +kernel) hS) (zCl_F ((zFr_st u1769 (Or.inr (by simp))) : zFr [155] [(154, 2), (156, 0), (156, 1)] ph _) (by simp) (by intro i hi; simp <;> omega) (by simp) hL)) (fun v1771 ph1772 hv => ?_)
  obtain ⟨rfl, rfl⟩ := hv
  show zW n D 54 Q 14 [some (.ref 154), some (.ref 1), some (.ref 5), some (.int (zn 2)), some (.int zr), none, none, none, none] [.int (zn R), .int (Int32.ofInt 0), .ref 156] ph1770
  refine w_ias (pc' := 15) (k := 0) (ykc_54 (e := (5, .iastore, 0)) rfl) (by omega) rfl (fun ph1774 u1773 => ?_)
  refine w_load (pc' := 16) (v := .ref 154) (m := 1) (ykc_54 (e := (2, .aload_n kF0, 0)) rfl) rfl rfl ?_
  refine w_gf (pc' := 19) (v := .ref 156) (ykc_54 (e := (5, .getfield 15, 0)) rfl) rfl ((u1773.2.1 154 1 (fun q => absurd q.1 (by decide))).trans ((u1769.2.1 154 1 (fun q => absurd q.2 (by decide))).trans (zsg hS zs_154_1))) rfl ?_
  refine w_alu (pc' := 20) (st' := [.int (Int32.ofInt 1), .ref 156]) (ykc_54 (e := (0, .iconst 1, 0)) rfl) rfl rfl ?_
  refine w_load (pc' := 21) (v := .ref 5) (m := 1) (ykc_54 (e := (2, .aload_n kF2, 0)) rfl) rfl rfl ?_
  refine w_cv (as := [.ref 5]) (r := [.int (Int32.ofInt 1), .ref 156]) (ykc_54 (e := (6, .invokevirtual 28, 0)) rfl) rfl rfl rfl rfl (zc_cols (zSh_F ((zFr_trans (zFr_st u1769 (Or.inr (by simp))) (zFr_st u1773 (Or.inr (by simp)))) : zFr [155] [(154, 2), (156, 0), (156, 1)] ph _) (by decide +kernel) hS) (zCl_F ((zFr_trans (zFr_st u1769 (Or.inr (by simp))) (zFr_st u1773 (Or.inr (by simp)))) : zFr [155] [(154, 2), (156, 0), (156, 1)] ph _) (by simp) (by intro i hi; simp <;> omega) (by simp) hL)) (fun v1775 ph1776 hv => ?_)
  obtain ⟨rfl, rfl⟩ := hv
  show zW n D 54 Q 24 [some (.ref 154), some (.ref 1), some (.ref 5), some (.int (zn 2)), some (.int zr), none, none, none, none] [.int (zn C), .int (Int32.ofInt 1), .ref 156] ph1774
  refine w_ias (pc' := 25) (k := 1) (ykc_54 (e := (5, .iastore, 0)) rfl) (by omega) rfl (fun ph1778 u1777 => ?_)
  refine w_load (pc' := 26) (v := .ref 1) (m := 1) (ykc_54 (e := (2, .aload_n kF1, 0)) rfl) rfl rfl ?_
  refine w_cv (as := [.ref 1]) (r := []) (ykc_54 (e := (6, .invokevirtual 31, 0)) rfl) rfl rfl rfl rfl (zc_tsize ((u1777.2.1 1 1 (fun q => absurd q.1 (by decide))).trans ((u1773.2.1 1 1 (fun q => absurd q.1 (by decide))).trans ((u1769.2.1 1 1 (fun q => absurd q.1 (by decide))).trans gn)))) (fun v1779 ph1780 hv => ?_)
  obtain ⟨rfl, rfl⟩ := hv
  show zW n D 54 Q 29 [some (.ref 154), some (.ref 1), some (.ref 5), some (.int (zn 2)), some (.int zr), none, none, none, none] [.int (zn ln)] ph1778
  refine w_store (pc' := 31) (L' := [some (.ref 154), some (.ref 1), some (.ref 5), some (.int (zn 2)), some (.int zr), some (.int (zn ln)), none, none, none]) (st' := []) (m := 2) (ykc_54 (e := (3, .istore 5, 0)) rfl) rfl rfl ?_
  refine w_load (pc' := 33) (v := .int (zn ln)) (m := 2) (ykc_54 (e := (2, .iload 5, 0)) rfl) rfl rfl ?_
  refine w_zne (ykc_54 (e := (4, .ifCond .ne 5, 38)) rfl) rfl (fun b1781 => ?_) (fun b1781 => ?_)
  · refine w_alu (pc' := 39) (st' := [.int (Int32.ofInt 0)]) (ykc_54 (e := (0, .iconst 0, 0)) rfl) rfl rfl ?_
    refine w_store (pc' := 41) (L' := [some (.ref 154), some (.ref 1), some (.ref 5), some (.int (zn 2)), some (.int zr), some (.int (zn ln)), some (.int (Int32.ofInt 0)), none, none]) (st' := []) (m := 2) (ykc_54 (e := (3, .istore 6, 0)) rfl) rfl rfl ?_
    refine w_alu (pc' := 42) (st' := [.int (Int32.ofInt 0)]) (ykc_54 (e := (0, .iconst 0, 0)) rfl) rfl rfl ?_
    refine w_store (pc' := 44) (L' := [some (.ref 154), some (.ref 1), some (.ref 5), some (.int (zn 2)), some (.int zr), some (.int (zn ln)), some (.int (Int32.ofInt 0)), some (.int (Int32.ofInt 0)), none]) (st' := []) (m := 2) (ykc_54 (e := (3, .istore 7, 0)) rfl) rfl rfl ?_
    have f1 : zFr [155] [(154, 2), (156, 0), (156, 1)] ph ph1778 := (zFr_trans (zFr_trans (zFr_st u1769 (Or.inr (by simp))) (zFr_st u1773 (Or.inr (by simp)))) (zFr_st u1777 (Or.inr (by simp))))
    have h1542 := ((u1777.2.1 154 2 (fun q => absurd q.1 (by decide))).trans ((u1773.2.1 154 2 (fun q => absurd q.1 (by decide))).trans u1769.1))
    have h1560 := ((u1777.2.1 156 0 (fun q => absurd q.2 (by decide))).trans u1773.1)
    have h1561 := u1777.1
    have e0 : zLa R C rk 2 3 ln t room = zLo R C rk 2 3 ln t room 9 0 := if_neg (by omega)
    have hb1 : ∀ i, i < 2 → zc ph1778 156 i = some (.int (zn (zLb R C i))) := fun i hi => by
      rcases (show i = 0 ∨ i = 1 ∨ i = 2 ∨ i = 3 by omega) with e | e | e | e <;> subst e
      · exact h1560
      · exact h1561
      · exact (f1.1 156 2 (by decide) (by decide)).trans hB.1
      · exact (f1.1 156 3 (by decide) (by decide)).trans hB.2
    have hl : ∀ (n : Nat), ∀ (l : Nat) (x8 : Option Value) (ph2 : pm_H), (l ≤ 7) → (l ≤ room) → (zFr [155] [] ph1778 ph2) → (zLa R C rk 2 3 ln t room = zLo R C rk 2 3 ln t room (9 - l) l) → (∀ j, j < l → zLg R C rk 2 ln t (3 * j) 2 = 2 ∧ ∀ i, i < 2 → zc ph2 155 (j * 2 + i) = some (.int (zn (t (3 * j + i) - 48)))) → zW n D 54 Q 44 [some (.ref 154), some (.ref 1), some (.ref 5), some (.int (zn 2)), some (.int zr), some (.int (zn ln)), some (.int (zn (3 * l))), some (.int (zn l)), x8] [] ph2 := by
      intro n
      induction n using Nat.strongRecOn with
      | ind n ih =>
        intro l x8 ph2 hl hlm hf ha hg
        have tl := znt (k := l) (by omega)
        have tsl := znt (k := 3 * l) (by omega)
        have f2 : zFr [155] [(154, 2), (156, 0), (156, 1)] ph ph2 := zFr_trans f1 (zFr_mono hf (by simp) (by simp))
        have hS2 := zSh_F f2 (by decide +kernel) hS
        have hL2 := zCl_F f2 (by simp) (by intro i hi; simp <;> omega) (by simp) hL
        have hT2 := zTc_F f2 (by simp) (by simp) (by simp) hT0
        have hin : l ≠ room → ∀ (n1 : Nat), n1 ≤ n → ∀ (i : Nat) (ph2 : pm_H), i ≤ 2 → (zFr [155] [] ph1778 ph2) → (∀ j, j < l → zLg R C rk 2 ln t (3 * j) 2 = 2 ∧ ∀ i, i < 2 → zc ph2 155 (j * 2 + i) = some (.int (zn (t (3 * j + i) - 48)))) → (zLg R C rk 2 ln t (3 * l) i = i) → (∀ k, k < i → zc ph2 155 (l * 2 + k) = some (.int (zn (t (3 * l + k) - 48)))) → zW n1 D 54 Q 61 [some (.ref 154), some (.ref 1), some (.ref 5), some (.int (zn 2)), some (.int zr), some (.int (zn ln)), some (.int (zn (3 * l + i))), some (.int (zn l)), some (.int (zn i))] [] ph2 := by
          intro hlr n1
          induction n1 using Nat.strongRecOn with
          | ind n1 ih1 =>
            intro hn1 i ph2 hi hf hg hgi hst
            have tl := znt (k := l) (by omega)
            have tsl := znt (k := 3 * l) (by omega)
            have f2 : zFr [155] [(154, 2), (156, 0), (156, 1)] ph ph2 := zFr_trans f1 (zFr_mono hf (by simp) (by simp))
            have hS2 := zSh_F f2 (by decide +kernel) hS
            have hL2 := zCl_F f2 (by simp) (by intro i hi; simp <;> omega) (by simp) hL
            have hT2 := zTc_F f2 (by simp) (by simp) (by simp) hT0
            have ti := znt (k := i) (by omega)
            have tsi := znt (k := 3 * l + i) (by omega)
            refine w_load (pc' := 63) (v := .int (zn i)) (m := 2) (ykc_54 (e := (2, .iload 8, 0)) rfl) rfl rfl ?_
            refine w_load (pc' := 64) (v := .ref 154) (m := 1) (ykc_54 (e := (2, .aload_n kF0, 0)) rfl) rfl rfl ?_
            refine w_gf (pc' := 67) (v := .int (zn 2)) (ykc_54 (e := (5, .getfield 18, 0)) rfl) rfl ((hf.1 154 2 (by decide) (by decide)).trans h1542) rfl ?_
            refine w_ige (ykc_54 (e := (4, .if_icmp .ge 35, 102)) rfl) rfl (fun b1782 => ?_) (fun b1782 => ?_)
            · have ei : i = 2 := by omega
              subst ei
              show zW n1 D 54 Q 102 [some (.ref 154), some (.ref 1), some (.ref 5), some (.int (zn 2)), some (.int zr), some (.int (zn ln)), some (.int (zn (3 * l + 2))), some (.int (zn l)), some (.int (zn 2))] [] ph2
              have hin9 : 3 * l + 2 ≤ ln := by have h := zLk_d (zLg_a hgi (2 - 1) (by omega)); omega
              refine w_load (pc' := 104) (v := .int (zn (3 * l + 2))) (m := 2) (ykc_54 (e := (2, .iload 6, 0)) rfl) rfl rfl ?_
              refine w_load (pc' := 106) (v := .int (zn ln)) (m := 2) (ykc_54 (e := (2, .iload 5, 0)) rfl) rfl rfl ?_
              refine w_ine (ykc_54 (e := (4, .if_icmp .ne 8, 114)) rfl) rfl (fun b1783 => ?_) (fun b1783 => ?_)
              · refine w_load (pc' := 116) (v := .int (zn l)) (m := 2) (ykc_54 (e := (2, .iload 7, 0)) rfl) rfl rfl ?_
                refine w_alu (pc' := 117) (st' := [.int (Int32.ofInt 1), .int (zn l)]) (ykc_54 (e := (0, .iconst 1, 0)) rfl) rfl rfl ?_
                have e1784 : (zn l) + (Int32.ofInt 1) = zn (l + 1) := (zaddN (a := l) (b := 1) (znt (by omega)) c_4 (by omega)) 
                have te1784 := znt (k := l + 1) (by omega)
                refine w_alu (pc' := 118) (st' := [.int (zn (l + 1))]) (ykc_54 (e := (0, .iadd, 0)) rfl) (by rw [← e1784]; rfl) rfl ?_
                refine w_push (pc' := 120) (v := .int ((Int8.ofInt 8).toInt32)) (m := 2) (ykc_54 (e := (1, .bipush 8, 0)) rfl) rfl rfl ?_
                refine w_ieq (ykc_54 (e := (4, .if_icmp .eq 14, 134)) rfl) rfl (fun b1785 => ?_) (fun b1785 => ?_)
                · refine w_alu (pc' := 135) (st' := [.int (Int32.ofInt (-1))]) (ykc_54 (e := (0, .iconst (-1), 0)) rfl) rfl rfl ?_
                  refine w_load (pc' := 137) (v := .int (zn (3 * l + 2))) (m := 2) (ykc_54 (e := (2, .iload 6, 0)) rfl) rfl rfl ?_
                  obtain ⟨z1786, e_z1786, h_z1786⟩ : ∃ zq : Int32, (Int32.ofInt (-1)) - (zn (3 * l + 2)) = zq ∧ zq.toInt = (-1 : Int) - ((3 * l + 2 : Nat) : Int) := ⟨_, rfl, zm1sub (by omega) (by omega) (by omega)⟩
                  refine w_alu (pc' := 138) (st' := [.int z1786]) (ykc_54 (e := (0, .isub, 0)) rfl) (by rw [← e_z1786]; rfl) rfl ?_
                  refine w_ret (v := (some (.int z1786))) (ykc_54 (e := (7, .ireturn, 0)) rfl) (zr_v rfl) ?_
                  have h8 := ha.trans (zLo_3 (by omega) hlr hgi (by omega) (by omega))
                  rw [hQ]
                  refine ⟨f2, (hf.1 154 2 (by decide) (by decide)).trans h1542, _, rfl, ?_, ?_⟩
                  · rw [h8]; omega
                  · intro j hj
                    rw [h8] at hj
                    exact absurd hj (by omega)
                · refine w_load (pc' := 124) (v := .ref 1) (m := 1) (ykc_54 (e := (2, .aload_n kF1, 0)) rfl) rfl rfl ?_
                  refine w_load (pc' := 126) (v := .int (zn (3 * l + 2))) (m := 2) (ykc_54 (e := (2, .iload 6, 0)) rfl) rfl rfl ?_
                  refine w_cv (as := [.ref 1, .int (zn (3 * l + 2))]) (r := []) (ykc_54 (e := (6, .invokevirtual 44, 0)) rfl) rfl rfl rfl rfl (zc_at hS2 hT2 (k := 3 * l + 2) (by omega)) (fun v1787 ph1788 hv => ?_)
                  obtain ⟨rfl, xa, rfl, exa⟩ := hv
                  have da := @zTi_c ln (3 * l + 2) t
                  have ba := @zTi_b ln (3 * l + 2) t (fun h => (gt _ h).2)
                  show zW n1 D 54 Q 129 [some (.ref 154), some (.ref 1), some (.ref 5), some (.int (zn 2)), some (.int zr), some (.int (zn ln)), some (.int (zn (3 * l + 2))), some (.int (zn l)), some (.int (zn 2))] [.int xa] ph2
                  refine w_push (pc' := 131) (v := .int ((Int8.ofInt 59).toInt32)) (m := 2) (ykc_54 (e := (1, .bipush 59, 0)) rfl) rfl rfl ?_
                  refine w_ieq (ykc_54 (e := (4, .if_icmp .eq 8, 139)) rfl) rfl (fun b1789 => ?_) (fun b1789 => ?_)
                  · have e1790 : (zn (3 * l + 2)) + Int32.ofInt 1 = zn (3 * l + 2 + 1) := (zaddN (a := 3 * l + 2) (b := 1) (znt (by omega)) c_4 (by omega))
                    have te1790 := znt (k := 3 * l + 2 + 1) (by omega)
                    refine w_store (pc' := 142) (L' := [some (.ref 154), some (.ref 1), some (.ref 5), some (.int (zn 2)), some (.int zr), some (.int (zn ln)), some (.int (zn (3 * l + 2 + 1))), some (.int (zn l)), some (.int (zn 2))]) (st' := []) (m := 3) (ykc_54 (e := (3, .iinc 6 1, 0)) rfl) (by rw [← e1790]; rfl) rfl ?_
                    have e1791 : (zn l) + Int32.ofInt 1 = zn (l + 1) := (zaddN (a := l) (b := 1) (znt (by omega)) c_4 (by omega))
                    have te1791 := znt (k := l + 1) (by omega)
                    refine w_store (pc' := 145) (L' := [some (.ref 154), some (.ref 1), some (.ref 5), some (.int (zn 2)), some (.int zr), some (.int (zn ln)), some (.int (zn (3 * l + 2 + 1))), some (.int (zn (l + 1))), some (.int (zn 2))]) (st' := []) (m := 3) (ykc_54 (e := (3, .iinc 7 1, 0)) rfl) (by rw [← e1791]; rfl) rfl ?_
                    refine w_gb (ykc_54 (e := (4, .goto (-101), 44)) rfl) (fun k1792 hk1792 => ?_)
                    have h8 := ha.trans (zLo_4 (by omega) hlr hgi (by omega) (by omega))
                    rw [show 3 * l + 2 + 1 = 3 * (l + 1) by omega]
                    exact ih k1792 (by omega) (l + 1) _ ph2 (by omega) (by omega) hf h8 (fun j hj => by
                      by_cases e : j = l
                      · subst e; exact ⟨hgi, hst⟩
                      · exact hg j (by omega))
                  · refine w_alu (pc' := 135) (st' := [.int (Int32.ofInt (-1))]) (ykc_54 (e := (0, .iconst (-1), 0)) rfl) rfl rfl ?_
                    refine w_load (pc' := 137) (v := .int (zn (3 * l + 2))) (m := 2) (ykc_54 (e := (2, .iload 6, 0)) rfl) rfl rfl ?_
                    obtain ⟨z1793, e_z1793, h_z1793⟩ : ∃ zq : Int32, (Int32.ofInt (-1)) - (zn (3 * l + 2)) = zq ∧ zq.toInt = (-1 : Int) - ((3 * l + 2 : Nat) : Int) := ⟨_, rfl, zm1sub (by omega) (by omega) (by omega)⟩
                    refine w_alu (pc' := 138) (st' := [.int z1793]) (ykc_54 (e := (0, .isub, 0)) rfl) (by rw [← e_z1793]; rfl) rfl ?_
                    refine w_ret (v := (some (.int z1793))) (ykc_54 (e := (7, .ireturn, 0)) rfl) (zr_v rfl) ?_
                    have h8 := ha.trans (zLo_3 (by omega) hlr hgi (by omega) (by omega))
                    rw [hQ]
                    refine ⟨f2, (hf.1 154 2 (by decide) (by decide)).trans h1542, _, rfl, ?_, ?_⟩
                    · rw [h8]; omega
                    · intro j hj
                      rw [h8] at hj
                      exact absurd hj (by omega)
              · refine w_load (pc' := 111) (v := .int (zn l)) (m := 2) (ykc_54 (e := (2, .iload 7, 0)) rfl) rfl rfl ?_
                refine w_alu (pc' := 112) (st' := [.int (Int32.ofInt 1), .int (zn l)]) (ykc_54 (e := (0, .iconst 1, 0)) rfl) rfl rfl ?_
                have e1794 : (zn l) + (Int32.ofInt 1) = zn (l + 1) := (zaddN (a := l) (b := 1) (znt (by omega)) c_4 (by omega)) 
                have te1794 := znt (k := l + 1) (by omega)
                refine w_alu (pc' := 113) (st' := [.int (zn (l + 1))]) (ykc_54 (e := (0, .iadd, 0)) rfl) (by rw [← e1794]; rfl) rfl ?_
                refine w_ret (v := (some (.int (zn (l + 1))))) (ykc_54 (e := (7, .ireturn, 0)) rfl) (zr_v rfl) ?_
                have h8 := ha.trans (zLo_2 (by omega) hlr hgi (by omega))
                rw [hQ]
                refine ⟨f2, (hf.1 154 2 (by decide) (by decide)).trans h1542, _, rfl, ?_, ?_⟩
                · rw [h8]; omega
                · intro j hj
                  rw [h8] at hj
                  by_cases e : j = l
                  · subst e; exact ⟨hgi, hst⟩
                  · exact hg j (by omega)
              
            · refine w_load (pc' := 71) (v := .ref 154) (m := 1) (ykc_54 (e := (2, .aload_n kF0, 0)) rfl) rfl rfl ?_
              refine w_load (pc' := 72) (v := .ref 1) (m := 1) (ykc_54 (e := (2, .aload_n kF1, 0)) rfl) rfl rfl ?_
              refine w_load (pc' := 74) (v := .int (zn (3 * l + i))) (m := 2) (ykc_54 (e := (2, .iload 6, 0)) rfl) rfl rfl ?_
              refine w_cv (as := [.ref 1, .int (zn (3 * l + i))]) (r := [.ref 154]) (ykc_54 (e := (6, .invokevirtual 36, 0)) rfl) rfl rfl rfl rfl (zc_digit hS2 hT2 (k := 3 * l + i) (by omega)) (fun v1796 ph1797 hv => ?_)
              obtain ⟨rfl, xd, rfl, exd⟩ := hv
              show zW n1 D 54 Q 77 [some (.ref 154), some (.ref 1), some (.ref 5), some (.int (zn 2)), some (.int zr), some (.int (zn ln)), some (.int (zn (3 * l + i))), some (.int (zn l)), some (.int (zn i))] [.int xd, .ref 154] ph2
              refine w_load (pc' := 79) (v := .int (zn l)) (m := 2) (ykc_54 (e := (2, .iload 7, 0)) rfl) rfl rfl ?_
              refine w_load (pc' := 81) (v := .int (zn i)) (m := 2) (ykc_54 (e := (2, .iload 8, 0)) rfl) rfl rfl ?_
              refine w_load (pc' := 82) (v := .ref 5) (m := 1) (ykc_54 (e := (2, .aload_n kF2, 0)) rfl) rfl rfl ?_
              refine w_cv (as := [.ref 154, .int xd, .int (zn l), .int (zn i), .ref 5]) (r := []) (ykc_54 (e := (6, .invokevirtual 40, 0)) rfl) rfl rfl rfl rfl (zc_tdig2 hS2 hL2 (by omega) (by omega) ((hf.1 154 2 (by decide) (by decide)).trans h1542) (fun i hi => (hf.1 156 i (by decide) (by simp)).trans (hb1 i hi)) exd (fun e => by subst e; exact ⟨zLg_a hgi 0 (by omega), by have h := hst 0 (by omega); simpa using h⟩)) (fun v1798 ph1799 hv => ?_)
              rcases hv with ⟨ftd, ⟨hk9, rfl, htd⟩ | ⟨hk9, rfl⟩⟩
              · show zW n1 D 54 Q 85 [some (.ref 154), some (.ref 1), some (.ref 5), some (.int (zn 2)), some (.int zr), some (.int (zn ln)), some (.int (zn (3 * l + i))), some (.int (zn l)), some (.int (zn i))] [.int (zI true)] ph1799
                refine w_bne (ykc_54 (e := (4, .ifCond .ne 8, 93)) rfl) rfl (fun b1800 => ?_) (fun q => absurd q (by decide))
                have e1801 : (zn (3 * l + i)) + Int32.ofInt 1 = zn (3 * l + i + 1) := (zaddN (a := 3 * l + i) (b := 1) (znt (by omega)) c_4 (by omega))
                have te1801 := znt (k := 3 * l + i + 1) (by omega)
                refine w_store (pc' := 96) (L' := [some (.ref 154), some (.ref 1), some (.ref 5), some (.int (zn 2)), some (.int zr), some (.int (zn ln)), some (.int (zn (3 * l + i + 1))), some (.int (zn l)), some (.int (zn i))]) (st' := []) (m := 3) (ykc_54 (e := (3, .iinc 6 1, 0)) rfl) (by rw [← e1801]; rfl) rfl ?_
                have e1802 : (zn i) + Int32.ofInt 1 = zn (i + 1) := (zaddN (a := i) (b := 1) (znt (by omega)) c_4 (by omega))
                have te1802 := znt (k := i + 1) (by omega)
                refine w_store (pc' := 99) (L' := [some (.ref 154), some (.ref 1), some (.ref 5), some (.int (zn 2)), some (.int zr), some (.int (zn ln)), some (.int (zn (3 * l + i + 1))), some (.int (zn l)), some (.int (zn (i + 1)))]) (st' := []) (m := 3) (ykc_54 (e := (3, .iinc 8 1, 0)) rfl) (by rw [← e1802]; rfl) rfl ?_
                refine w_gb (ykc_54 (e := (4, .goto (-38), 61)) rfl) (fun k1803 hk1803 => ?_)
                exact ih1 k1803 hk1803 (by omega) (i + 1) _ (by omega) (zFr_trans hf ftd) (fun j hj => ⟨(hg j hj).1, fun k hk9 => (htd.2.1 155 (j * 2 + k) (fun q => by have q2 := q.2; omega)).trans ((hg j hj).2 k hk9)⟩) (zLg_s hgi hk9) (fun k hk => by
                  by_cases e : k = i
                  · subst e; exact htd.1
                  · exact (htd.2.1 155 (l * 2 + k) (fun q => e (by have q2 := q.2; omega))).trans (hst k (by omega)))
              · show zW n1 D 54 Q 85 [some (.ref 154), some (.ref 1), some (.ref 5), some (.int (zn 2)), some (.int zr), some (.int (zn ln)), some (.int (zn (3 * l + i))), some (.int (zn l)), some (.int (zn i))] [.int (zI false)] ph1799
                refine w_bne (ykc_54 (e := (4, .ifCond .ne 8, 93)) rfl) rfl (fun q => absurd q (by decide)) (fun b1804 => ?_)
                refine w_alu (pc' := 89) (st' := [.int (Int32.ofInt (-1))]) (ykc_54 (e := (0, .iconst (-1), 0)) rfl) rfl rfl ?_
                refine w_load (pc' := 91) (v := .int (zn (3 * l + i))) (m := 2) (ykc_54 (e := (2, .iload 6, 0)) rfl) rfl rfl ?_
                obtain ⟨z1805, e_z1805, h_z1805⟩ : ∃ zq : Int32, (Int32.ofInt (-1)) - (zn (3 * l + i)) = zq ∧ zq.toInt = (-1 : Int) - ((3 * l + i : Nat) : Int) := ⟨_, rfl, zm1sub (by omega) (by omega) (by omega)⟩
                refine w_alu (pc' := 92) (st' := [.int z1805]) (ykc_54 (e := (0, .isub, 0)) rfl) (by rw [← e_z1805]; rfl) rfl ?_
                refine w_ret (v := (some (.int z1805))) (ykc_54 (e := (7, .ireturn, 0)) rfl) (zr_v rfl) ?_
                have hlg : zLg R C rk 2 ln t (3 * l) 2 = i := by
                  have h := zLg_f hgi hk9 (2 - 1 - i)
                  rwa [show i + 1 + (2 - 1 - i) = 2 by omega] at h
                have h8 := ha.trans (zLo_1 (by omega) hlr (by omega))
                rw [hlg] at h8
                have f3 := zFr_trans f2 (zFr_mono ftd (by simp) (by simp) : zFr [155] [(154, 2), (156, 0), (156, 1)] ph2 _)
                rw [hQ]
                refine ⟨zFr_trans f2 (zFr_mono ftd (by simp) (by simp)), (ftd.1 154 2 (by decide) (by decide)).trans ((hf.1 154 2 (by decide) (by decide)).trans h1542), _, rfl, ?_, ?_⟩
                · rw [h8]; omega
                · intro j hj
                  rw [h8] at hj
                  exact absurd hj (by omega)
              
        refine w_load (pc' := 46) (v := .int (zn l)) (m := 2) (ykc_54 (e := (2, .iload 7, 0)) rfl) rfl rfl ?_
        refine w_push (pc' := 48) (v := .int ((Int8.ofInt 8).toInt32)) (m := 2) (ykc_54 (e := (1, .bipush 8, 0)) rfl) rfl rfl ?_
        refine w_ige (ykc_54 (e := (4, .if_icmp .ge 100, 148)) rfl) rfl (fun b1806 => ?_) (fun b1806 => ?_)
        · exfalso; omega
          
        · refine w_load (pc' := 53) (v := .int (zn l)) (m := 2) (ykc_54 (e := (2, .iload 7, 0)) rfl) rfl rfl ?_
          refine w_load (pc' := 55) (v := .int zr) (m := 2) (ykc_54 (e := (2, .iload 4, 0)) rfl) rfl rfl ?_
          refine w_ige (ykc_54 (e := (4, .if_icmp .ge 93, 148)) rfl) rfl (fun b1807 => ?_) (fun b1807 => ?_)
          · have hr : l = room := by omega
            refine w_alu (pc' := 149) (st' := [.int (Int32.ofInt (-1))]) (ykc_54 (e := (0, .iconst (-1), 0)) rfl) rfl rfl ?_
            refine w_load (pc' := 151) (v := .int (zn (3 * l))) (m := 2) (ykc_54 (e := (2, .iload 6, 0)) rfl) rfl rfl ?_
            obtain ⟨z1808, e_z1808, h_z1808⟩ : ∃ zq : Int32, (Int32.ofInt (-1)) - (zn (3 * l)) = zq ∧ zq.toInt = (-1 : Int) - ((3 * l : Nat) : Int) := ⟨_, rfl, zm1sub (by omega) (by omega) (by omega)⟩
            refine w_alu (pc' := 152) (st' := [.int z1808]) (ykc_54 (e := (0, .isub, 0)) rfl) (by rw [← e_z1808]; rfl) rfl ?_
            refine w_ret (v := (some (.int z1808))) (ykc_54 (e := (7, .ireturn, 0)) rfl) (zr_v rfl) ?_
            have h8 := ha.trans (zLo_0 (by omega) hr)
            rw [hQ]
            refine ⟨f2, (hf.1 154 2 (by decide) (by decide)).trans h1542, _, rfl, ?_, ?_⟩
            · rw [h8]; omega
            · intro j hj
              rw [h8] at hj
              exact absurd hj (by omega)
            
          · refine w_alu (pc' := 59) (st' := [.int (Int32.ofInt 0)]) (ykc_54 (e := (0, .iconst 0, 0)) rfl) rfl rfl ?_
            refine w_store (pc' := 61) (L' := [some (.ref 154), some (.ref 1), some (.ref 5), some (.int (zn 2)), some (.int zr), some (.int (zn ln)), some (.int (zn (3 * l))), some (.int (zn l)), some (.int (Int32.ofInt 0))]) (st' := []) (m := 2) (ykc_54 (e := (3, .istore 8, 0)) rfl) rfl rfl ?_
            exact hin (by omega) _ (Nat.le_refl _) 0 ph2 (Nat.zero_le _) hf hg rfl (fun k hk => absurd hk (Nat.not_lt_zero k))
    exact hl n 0 _ ph1778 (Nat.zero_le _) (Nat.zero_le _) zFr_refl e0 (fun j hj => absurd hj (Nat.not_lt_zero j))
  · refine w_alu (pc' := 37) (st' := [.int (Int32.ofInt 0)]) (ykc_54 (e := (0, .iconst 0, 0)) rfl) rfl rfl ?_
    refine w_ret (v := (some (.int (Int32.ofInt 0)))) (ykc_54 (e := (7, .ireturn, 0)) rfl) (zr_v rfl) ?_
    have e0 : zLa R C rk 2 3 ln t room = 0 := if_pos (by omega)
    rw [hQ]
    exact ⟨(zFr_trans (zFr_trans (zFr_st u1769 (Or.inr (by simp))) (zFr_st u1773 (Or.inr (by simp)))) (zFr_st u1777 (Or.inr (by simp)))), ((u1777.2.1 154 2 (fun q => absurd q.1 (by decide))).trans ((u1773.2.1 154 2 (fun q => absurd q.1 (by decide))).trans u1769.1)), _, rfl, by rw [e0]; omega, fun l hl => absurd hl (by rw [e0]; omega)⟩
end
section
/-! people and things of the class, by W; printed by wip/z/z1e_people.py -/
/-- one more of PEOPLE; k LINES of them; one more THING; k of them -/
def zad (v : Nat → Nat) (P f a b : Nat) : Nat → Nat := znu (znu (znu (znu v P f) (8 + P) a) (16 + P) b) (24 + P) 0
def zPv (C : Nat) (t : Nat → Nat) (P : Nat) (v : Nat → Nat) : Nat → Nat → Nat
  | 0 => v
  | k + 1 => zad (zPv C t P v k) (P + k) (zLf C t (5 * k)) (t (5 * k + 2) - 48) (t (5 * k + 3) - 48)
def zGv (C : Nat) (t : Nat → Nat) (G : Nat) (v : Nat → Nat) : Nat → Nat → Nat
  | 0 => v
  | k + 1 => znu (zGv C t G v k) (32 + (G + k)) (zLf C t (3 * k))
theorem znu_e {f : Nat → Nat} {i x : Nat} : znu f i x i = x := if_pos rfl
theorem znu_n {f : Nat → Nat} {i j x : Nat} (h : j ≠ i) : znu f i x j = f j := if_neg h
theorem zad_o {v : Nat → Nat} {P f a b j : Nat} (h : j ≠ P ∧ j ≠ 8 + P ∧ j ≠ 16 + P ∧ j ≠ 24 + P) : zad v P f a b j = v j := by
  unfold zad
  rw [znu_n h.2.2.2, znu_n h.2.2.1, znu_n h.2.1, znu_n h.1]
theorem zad_f {v : Nat → Nat} {P f a b : Nat} : zad v P f a b P = f ∧ zad v P f a b (8 + P) = a ∧ zad v P f a b (16 + P) = b ∧ zad v P f a b (24 + P) = 0 := by
  unfold zad
  refine ⟨?_, ?_, ?_, znu_e⟩
  · rw [znu_n (by omega), znu_n (by omega), znu_n (by omega), znu_e]
  · rw [znu_n (by omega), znu_n (by omega), znu_e]
  · rw [znu_n (by omega), znu_e]
theorem zOk_ad {R C P G f a b : Nat} {v : Nat → Nat} (hP : P < 8) (h : zOk R C P G v) (hf : f < R * C) (ha : a < 8) (hb : b ≤ 4) : zOk R C (P + 1) G (zad v P f a b) := by
  obtain ⟨e1, e2, e3, e4⟩ := @zad_f v P f a b
  refine ⟨fun p hp => ?_, fun t ht => ?_, ?_⟩
  · by_cases e : p = P
    · subst e
      rw [e1, e2, e3, e4]
      exact ⟨hf, ha, hb, by decide⟩
    · rw [zad_o (by omega), zad_o (by omega), zad_o (by omega), zad_o (by omega)]
      exact h.1 p (by omega)
  · rw [zad_o (by omega)]
    exact h.2.1 t ht
  · rw [zad_o (by omega)]
    exact h.2.2
theorem zOk_ag {R C P G f : Nat} {v : Nat → Nat} (hP : P ≤ 8) (hG : G < 8) (h : zOk R C P G v) (hf : f < R * C) : zOk R C P (G + 1) (znu v (32 + G) f) := by
  refine ⟨fun p hp => ?_, fun t ht => ?_, ?_⟩
  · rw [znu_n (by omega), znu_n (by omega), znu_n (by omega), znu_n (by omega)]
    exact h.1 p hp
  · by_cases e : t = G
    · subst e; rw [znu_e]; exact hf
    · rw [znu_n (by omega)]; exact h.2.1 t (by omega)
  · rw [znu_n (by omega)]
    exact h.2.2
theorem zPv_ok {R C P G n k : Nat} {rk : Nat → Bool} {t v : Nat → Nat} (hR : 3 ≤ R) (hC : 3 ≤ C) (h : zOk R C P G v) (hg : ∀ l, l < k → zLg R C rk 4 n t (5 * l) 4 = 4) (hk : P + k ≤ 8) : zOk R C (P + k) G (zPv C t P v k) := by
  induction k with
  | zero => exact h
  | succ k ih =>
    have h1 := ih (fun l hl => hg l (by omega)) (by omega)
    have g := hg k (by omega)
    have g0 := zLk_d (zLg_a g 0 (by omega))
    have g1 := zLk_d (zLg_a g 1 (by omega))
    have g2 := zLk_d (zLg_a g 2 (by omega))
    have g3 := zLk_d (zLg_a g 3 (by omega))
    have b0 : zLb R C 0 = R := rfl
    have b1 : zLb R C 1 = C := rfl
    have b2 : zLb R C 2 = 8 := rfl
    have b3 : zLb R C 3 = 5 := rfl
    rw [Nat.add_zero] at g0
    exact zOk_ad (show P + k < 8 by omega) h1 (zLf_lt (by omega) (by omega) (by omega) (by omega)) (by omega) (by omega)
theorem zGv_ok {R C P G n k : Nat} {rk : Nat → Bool} {t v : Nat → Nat} (hR : 3 ≤ R) (hC : 3 ≤ C) (hP : P ≤ 8) (h : zOk R C P G v) (hg : ∀ l, l < k → zLg R C rk 2 n t (3 * l) 2 = 2) (hk : G + k ≤ 8) : zOk R C P (G + k) (zGv C t G v k) := by
  induction k with
  | zero => exact h
  | succ k ih =>
    have h1 := ih (fun l hl => hg l (by omega)) (by omega)
    have g := hg k (by omega)
    have g0 := zLk_d (zLg_a g 0 (by omega))
    have g1 := zLk_d (zLg_a g 1 (by omega))
    have b0 : zLb R C 0 = R := rfl
    have b1 : zLb R C 1 = C := rfl
    rw [Nat.add_zero] at g0
    exact zOk_ag hP (show G + k < 8 by omega) h1 (zLf_lt (by omega) (by omega) (by omega) (by omega))
theorem zCk_F2 {A : List Nat} {F : List (Nat × Nat)} {p q : pm_H} {P G fl : Nat} {sv : Nat → Nat → Nat} (f : zFr A F p q) (h1 : 43 ∉ A) (h2 : (43, 4) ∉ F) (h3 : ∀ j, 136 ≤ j → j < 154 → j ∉ A) (h4 : ∀ j i, 136 ≤ j → j < 154 → (j, i) ∉ F) (h : zCk p P G fl sv) : zCk q P G fl sv := ⟨(f.1 _ _ h1 h2).trans h.1, h.2.1, fun i hi hb => zSd_F f (fun j hj => h3 _ (by omega) (by omega)) (fun j k hj => h4 _ _ (by omega) (by omega)) (h.2.2 i hi hb)⟩
/-- an answer is no more than the room -/
theorem zLo_r {R C wd st n room : Nat} {rk : Nat → Bool} {t : Nat → Nat} : ∀ f l, l + f = 9 → l ≤ room → room ≤ 8 → zLo R C rk wd st n t room f l ≤ (room : Int) := by
  intro f
  induction f with
  | zero => intro l h1 h2 h3; show (0 : Int) ≤ _; omega
  | succ f ih =>
    intro l h1 h2 h3
    unfold zLo
    split
    · omega
    · split
      · omega
      · split
        · omega
        · split
          · omega
          · exact ih (l + 1) (by omega) (by omega) h3
theorem zLa_r {R C wd st n room : Nat} {rk : Nat → Bool} {t : Nat → Nat} (h : room ≤ 8) : zLa R C rk wd st n t room ≤ (room : Int) := by
  unfold zLa
  split
  · omega
  · exact zLo_r 9 0 rfl (Nat.zero_le _) h
theorem zc_addP {ph : pm_H} {P G : Nat} {v : Nat → Nat} (hS : zSh ph) (hd : zSd ph 25 P G v) {x y z : Int32} {f a b : Nat} (hx : x = zn f) (hy : y = zn a) (hz : z = zn b) (h8 : P < 8) : zM 104 [.ref 25, .int x, .int y, .int z] ph (fun v0 q => v0 = none ∧ zFr [26, 27, 28, 29] [(25, 0)] ph q ∧ zSd q 25 (P + 1) G (zad v P f a b)) := by
  obtain ⟨Q, hQ⟩ : ∃ Q : Option Value → pm_H → Prop, Q = (fun v0 q => v0 = none ∧ zFr [26, 27, 28, 29] [(25, 0)] ph q ∧ zSd q 25 (P + 1) G (zad v P f a b)) := ⟨_, rfl⟩
  rw [← hQ]
  refine zM_mk fun n D => ?_
  show zW n D 104 Q 0 [some (.ref 25), some (.int x), some (.int y), some (.int z)] [] ph
  have c_0 : ((Int8.ofInt 8).toInt32).toInt = 8 := by decide
  have c_1 : (Int32.ofInt 0).toInt = 0 := by decide
  have c_2 : (Int32.ofInt 1).toInt = 1 := by decide
  subst hx hy hz
  show zW n D 104 Q 0 [some (.ref 25), some (.int (zn f)), some (.int (zn a)), some (.int (zn b))] [] ph
  obtain ⟨gP, hP8, gG, hG8, g40, gp, gg⟩ := hd
  have tP := znt (k := P) (by omega)
  have tG := znt (k := G) (by omega)
  refine w_load (pc' := 1) (v := .ref 25) (m := 1) (ykc_104 (e := (2, .aload_n kF0, 0)) rfl) rfl rfl ?_
  refine w_gf (pc' := 4) (v := .int (zn P)) (ykc_104 (e := (5, .getfield 30, 0)) rfl) rfl gP rfl ?_
  refine w_zlt (ykc_104 (e := (4, .ifCond .lt 12, 16)) rfl) rfl (fun q => by exfalso; omega) (fun b1809 => ?_)
  refine w_load (pc' := 8) (v := .ref 25) (m := 1) (ykc_104 (e := (2, .aload_n kF0, 0)) rfl) rfl rfl ?_
  refine w_gf (pc' := 11) (v := .int (zn P)) (ykc_104 (e := (5, .getfield 30, 0)) rfl) rfl gP rfl ?_
  refine w_push (pc' := 13) (v := .int ((Int8.ofInt 8).toInt32)) (m := 2) (ykc_104 (e := (1, .bipush 8, 0)) rfl) rfl rfl ?_
  refine w_ilt (ykc_104 (e := (4, .if_icmp .lt 4, 17)) rfl) rfl (fun b1810 => ?_) (fun q => by exfalso; omega)
  refine w_load (pc' := 18) (v := .ref 25) (m := 1) (ykc_104 (e := (2, .aload_n kF0, 0)) rfl) rfl rfl ?_
  refine w_gf (pc' := 21) (v := .ref 26) (ykc_104 (e := (5, .getfield 9, 0)) rfl) rfl (zsg hS zs_25_3) rfl ?_
  refine w_load (pc' := 22) (v := .ref 25) (m := 1) (ykc_104 (e := (2, .aload_n kF0, 0)) rfl) rfl rfl ?_
  refine w_gf (pc' := 25) (v := .int (zn P)) (ykc_104 (e := (5, .getfield 30, 0)) rfl) rfl gP rfl ?_
  refine w_load (pc' := 26) (v := .int (zn f)) (m := 1) (ykc_104 (e := (2, .iload_n kF1, 0)) rfl) rfl rfl ?_
  refine w_ias (pc' := 27) (k := P) (ykc_104 (e := (5, .iastore, 0)) rfl) (by omega) rfl (fun ph1812 u1811 => ?_)
  refine w_load (pc' := 28) (v := .ref 25) (m := 1) (ykc_104 (e := (2, .aload_n kF0, 0)) rfl) rfl rfl ?_
  refine w_gf (pc' := 31) (v := .ref 27) (ykc_104 (e := (5, .getfield 15, 0)) rfl) rfl ((u1811.2.1 25 4 (fun q => absurd q.1 (by decide))).trans (zsg hS zs_25_4)) rfl ?_
  refine w_load (pc' := 32) (v := .ref 25) (m := 1) (ykc_104 (e := (2, .aload_n kF0, 0)) rfl) rfl rfl ?_
  refine w_gf (pc' := 35) (v := .int (zn P)) (ykc_104 (e := (5, .getfield 30, 0)) rfl) rfl ((u1811.2.1 25 0 (fun q => absurd q.1 (by decide))).trans gP) rfl ?_
  refine w_load (pc' := 36) (v := .int (zn a)) (m := 1) (ykc_104 (e := (2, .iload_n kF2, 0)) rfl) rfl rfl ?_
  refine w_ias (pc' := 37) (k := P) (ykc_104 (e := (5, .iastore, 0)) rfl) (by omega) rfl (fun ph1814 u1813 => ?_)
  refine w_load (pc' := 38) (v := .ref 25) (m := 1) (ykc_104 (e := (2, .aload_n kF0, 0)) rfl) rfl rfl ?_
  refine w_gf (pc' := 41) (v := .ref 28) (ykc_104 (e := (5, .getfield 18, 0)) rfl) rfl ((u1813.2.1 25 5 (fun q => absurd q.1 (by decide))).trans ((u1811.2.1 25 5 (fun q => absurd q.1 (by decide))).trans (zsg hS zs_25_5))) rfl ?_
  refine w_load (pc' := 42) (v := .ref 25) (m := 1) (ykc_104 (e := (2, .aload_n kF0, 0)) rfl) rfl rfl ?_
  refine w_gf (pc' := 45) (v := .int (zn P)) (ykc_104 (e := (5, .getfield 30, 0)) rfl) rfl ((u1813.2.1 25 0 (fun q => absurd q.1 (by decide))).trans ((u1811.2.1 25 0 (fun q => absurd q.1 (by decide))).trans gP)) rfl ?_
  refine w_load (pc' := 46) (v := .int (zn b)) (m := 1) (ykc_104 (e := (2, .iload_n kF3, 0)) rfl) rfl rfl ?_
  refine w_ias (pc' := 47) (k := P) (ykc_104 (e := (5, .iastore, 0)) rfl) (by omega) rfl (fun ph1816 u1815 => ?_)
  refine w_load (pc' := 48) (v := .ref 25) (m := 1) (ykc_104 (e := (2, .aload_n kF0, 0)) rfl) rfl rfl ?_
  refine w_gf (pc' := 51) (v := .ref 29) (ykc_104 (e := (5, .getfield 21, 0)) rfl) rfl ((u1815.2.1 25 6 (fun q => absurd q.1 (by decide))).trans ((u1813.2.1 25 6 (fun q => absurd q.1 (by decide))).trans ((u1811.2.1 25 6 (fun q => absurd q.1 (by decide))).trans (zsg hS zs_25_6)))) rfl ?_
  refine w_load (pc' := 52) (v := .ref 25) (m := 1) (ykc_104 (e := (2, .aload_n kF0, 0)) rfl) rfl rfl ?_
  refine w_gf (pc' := 55) (v := .int (zn P)) (ykc_104 (e := (5, .getfield 30, 0)) rfl) rfl ((u1815.2.1 25 0 (fun q => absurd q.1 (by decide))).trans ((u1813.2.1 25 0 (fun q => absurd q.1 (by decide))).trans ((u1811.2.1 25 0 (fun q => absurd q.1 (by decide))).trans gP))) rfl ?_
  refine w_alu (pc' := 56) (st' := [.int (Int32.ofInt 0), .int (zn P), .ref 29]) (ykc_104 (e := (0, .iconst 0, 0)) rfl) rfl rfl ?_
  refine w_ias (pc' := 57) (k := P) (ykc_104 (e := (5, .iastore, 0)) rfl) (by omega) rfl (fun ph1818 u1817 => ?_)
  refine w_load (pc' := 58) (v := .ref 25) (m := 1) (ykc_104 (e := (2, .aload_n kF0, 0)) rfl) rfl rfl ?_
  refine w_alu (pc' := 59) (st' := [.ref 25, .ref 25]) (ykc_104 (e := (0, .dup, 0)) rfl) rfl rfl ?_
  refine w_gf (pc' := 62) (v := .int (zn P)) (ykc_104 (e := (5, .getfield 30, 0)) rfl) rfl ((u1817.2.1 25 0 (fun q => absurd q.1 (by decide))).trans ((u1815.2.1 25 0 (fun q => absurd q.1 (by decide))).trans ((u1813.2.1 25 0 (fun q => absurd q.1 (by decide))).trans ((u1811.2.1 25 0 (fun q => absurd q.1 (by decide))).trans gP)))) rfl ?_
  refine w_alu (pc' := 63) (st' := [.int (Int32.ofInt 1), .int (zn P), .ref 25]) (ykc_104 (e := (0, .iconst 1, 0)) rfl) rfl rfl ?_
  have e1819 : (zn P) + (Int32.ofInt 1) = zn (P + 1) := (zaddN (a := P) (b := 1) (znt (by omega)) c_2 (by omega)) 
  have te1819 := znt (k := P + 1) (by omega)
  refine w_alu (pc' := 64) (st' := [.int (zn (P + 1)), .ref 25]) (ykc_104 (e := (0, .iadd, 0)) rfl) (by rw [← e1819]; rfl) rfl ?_
  refine w_pf (pc' := 67) (ykc_104 (e := (5, .putfield 30, 0)) rfl) rfl rfl (fun ph1821 u1820 => ?_)
  refine w_ret (v := none) (ykc_104 (e := (7, .return_, 0)) rfl) (zr_v rfl) ?_
  obtain ⟨e1, e2, e3, e4⟩ := @zad_f v P f a b
  have hf5 : zFr [26, 27, 28, 29] [(25, 0)] ph ph1821 := (zFr_trans (zFr_trans (zFr_trans (zFr_trans (zFr_st u1811 (Or.inl (by simp))) (zFr_st u1813 (Or.inl (by simp)))) (zFr_st u1815 (Or.inl (by simp)))) (zFr_st u1817 (Or.inl (by simp)))) (zFr_st u1820 (Or.inr (by simp))))
  have m : ∀ A i, A ∈ [26, 27, 28, 29] → i ≠ P → zc ph1821 A i = zc ph A i := fun A i hA hi => (u1820.2.1 A i (fun q => by have q1 := q.1; subst q1; simp at hA)).trans ((u1817.2.1 A i (fun q => hi q.2)).trans ((u1815.2.1 A i (fun q => hi q.2)).trans ((u1813.2.1 A i (fun q => hi q.2)).trans (u1811.2.1 A i (fun q => hi q.2)))))
  rw [hQ]
  refine ⟨rfl, hf5, u1820.1, by omega, ((u1820.2.1 25 1 (fun q => absurd q.2 (by decide))).trans ((u1817.2.1 25 1 (fun q => absurd q.1 (by decide))).trans ((u1815.2.1 25 1 (fun q => absurd q.1 (by decide))).trans ((u1813.2.1 25 1 (fun q => absurd q.1 (by decide))).trans ((u1811.2.1 25 1 (fun q => absurd q.1 (by decide))).trans gG))))), hG8, ?_, fun i hi => ⟨?_, ?_, ?_, ?_⟩, fun i hi => ?_⟩
  · rw [zad_o (by omega)]
    exact (hf5.1 25 2 (by decide) (by decide)).trans g40
  · by_cases e : i = P
    · subst e; rw [e1]; exact ((u1820.2.1 26 i (fun q => absurd q.1 (by decide))).trans ((u1817.2.1 26 i (fun q => absurd q.1 (by decide))).trans ((u1815.2.1 26 i (fun q => absurd q.1 (by decide))).trans ((u1813.2.1 26 i (fun q => absurd q.1 (by decide))).trans u1811.1))))
    · rw [zad_o (by omega)]; exact (m 26 i (by simp) e).trans (gp i (by omega)).1
  · by_cases e : i = P
    · subst e; rw [e2]; exact ((u1820.2.1 27 i (fun q => absurd q.1 (by decide))).trans ((u1817.2.1 27 i (fun q => absurd q.1 (by decide))).trans ((u1815.2.1 27 i (fun q => absurd q.1 (by decide))).trans u1813.1)))
    · rw [zad_o (by omega)]; exact (m 27 i (by simp) e).trans (gp i (by omega)).2.1
  · by_cases e : i = P
    · subst e; rw [e3]; exact ((u1820.2.1 28 i (fun q => absurd q.1 (by decide))).trans ((u1817.2.1 28 i (fun q => absurd q.1 (by decide))).trans u1815.1))
    · rw [zad_o (by omega)]; exact (m 28 i (by simp) e).trans (gp i (by omega)).2.2.1
  · by_cases e : i = P
    · subst e; rw [e4]; exact ((u1820.2.1 29 i (fun q => absurd q.1 (by decide))).trans u1817.1)
    · rw [zad_o (by omega)]; exact (m 29 i (by simp) e).trans (gp i (by omega)).2.2.2
  · rw [zad_o (by omega)]
    exact (hf5.1 30 i (by decide) (by simp)).trans (gg i hi)
theorem zc_addT {ph : pm_H} {P G : Nat} {v : Nat → Nat} (hS : zSh ph) (hd : zSd ph 25 P G v) {x : Int32} {f : Nat} (hx : x = zn f) (h8 : G < 8) : zM 105 [.ref 25, .int x] ph (fun v0 q => v0 = none ∧ zFr [30] [(25, 1)] ph q ∧ zSd q 25 P (G + 1) (znu v (32 + G) f)) := by
  obtain ⟨Q, hQ⟩ : ∃ Q : Option Value → pm_H → Prop, Q = (fun v0 q => v0 = none ∧ zFr [30] [(25, 1)] ph q ∧ zSd q 25 P (G + 1) (znu v (32 + G) f)) := ⟨_, rfl⟩
  rw [← hQ]
  refine zM_mk fun n D => ?_
  show zW n D 105 Q 0 [some (.ref 25), some (.int x)] [] ph
  have c_0 : ((Int8.ofInt 8).toInt32).toInt = 8 := by decide
  have c_1 : (Int32.ofInt 1).toInt = 1 := by decide
  subst hx
  show zW n D 105 Q 0 [some (.ref 25), some (.int (zn f))] [] ph
  obtain ⟨gP, hP8, gG, hG8, g40, gp, gg⟩ := hd
  have tP := znt (k := P) (by omega)
  have tG := znt (k := G) (by omega)
  refine w_load (pc' := 1) (v := .ref 25) (m := 1) (ykc_105 (e := (2, .aload_n kF0, 0)) rfl) rfl rfl ?_
  refine w_gf (pc' := 4) (v := .int (zn G)) (ykc_105 (e := (5, .getfield 34, 0)) rfl) rfl gG rfl ?_
  refine w_zlt (ykc_105 (e := (4, .ifCond .lt 12, 16)) rfl) rfl (fun q => by exfalso; omega) (fun b1822 => ?_)
  refine w_load (pc' := 8) (v := .ref 25) (m := 1) (ykc_105 (e := (2, .aload_n kF0, 0)) rfl) rfl rfl ?_
  refine w_gf (pc' := 11) (v := .int (zn G)) (ykc_105 (e := (5, .getfield 34, 0)) rfl) rfl gG rfl ?_
  refine w_push (pc' := 13) (v := .int ((Int8.ofInt 8).toInt32)) (m := 2) (ykc_105 (e := (1, .bipush 8, 0)) rfl) rfl rfl ?_
  refine w_ilt (ykc_105 (e := (4, .if_icmp .lt 4, 17)) rfl) rfl (fun b1823 => ?_) (fun q => by exfalso; omega)
  refine w_load (pc' := 18) (v := .ref 25) (m := 1) (ykc_105 (e := (2, .aload_n kF0, 0)) rfl) rfl rfl ?_
  refine w_gf (pc' := 21) (v := .ref 30) (ykc_105 (e := (5, .getfield 24, 0)) rfl) rfl (zsg hS zs_25_7) rfl ?_
  refine w_load (pc' := 22) (v := .ref 25) (m := 1) (ykc_105 (e := (2, .aload_n kF0, 0)) rfl) rfl rfl ?_
  refine w_gf (pc' := 25) (v := .int (zn G)) (ykc_105 (e := (5, .getfield 34, 0)) rfl) rfl gG rfl ?_
  refine w_load (pc' := 26) (v := .int (zn f)) (m := 1) (ykc_105 (e := (2, .iload_n kF1, 0)) rfl) rfl rfl ?_
  refine w_ias (pc' := 27) (k := G) (ykc_105 (e := (5, .iastore, 0)) rfl) (by omega) rfl (fun ph1825 u1824 => ?_)
  refine w_load (pc' := 28) (v := .ref 25) (m := 1) (ykc_105 (e := (2, .aload_n kF0, 0)) rfl) rfl rfl ?_
  refine w_alu (pc' := 29) (st' := [.ref 25, .ref 25]) (ykc_105 (e := (0, .dup, 0)) rfl) rfl rfl ?_
  refine w_gf (pc' := 32) (v := .int (zn G)) (ykc_105 (e := (5, .getfield 34, 0)) rfl) rfl ((u1824.2.1 25 1 (fun q => absurd q.1 (by decide))).trans gG) rfl ?_
  refine w_alu (pc' := 33) (st' := [.int (Int32.ofInt 1), .int (zn G), .ref 25]) (ykc_105 (e := (0, .iconst 1, 0)) rfl) rfl rfl ?_
  have e1826 : (zn G) + (Int32.ofInt 1) = zn (G + 1) := (zaddN (a := G) (b := 1) (znt (by omega)) c_1 (by omega)) 
  have te1826 := znt (k := G + 1) (by omega)
  refine w_alu (pc' := 34) (st' := [.int (zn (G + 1)), .ref 25]) (ykc_105 (e := (0, .iadd, 0)) rfl) (by rw [← e1826]; rfl) rfl ?_
  refine w_pf (pc' := 37) (ykc_105 (e := (5, .putfield 34, 0)) rfl) rfl rfl (fun ph1828 u1827 => ?_)
  refine w_ret (v := none) (ykc_105 (e := (7, .return_, 0)) rfl) (zr_v rfl) ?_
  have hf5 : zFr [30] [(25, 1)] ph ph1828 := zFr_trans (zFr_st u1824 (Or.inl (by simp))) (zFr_st u1827 (Or.inr (by simp)))
  rw [hQ]
  refine ⟨rfl, hf5, ((u1827.2.1 25 0 (fun q => absurd q.2 (by decide))).trans ((u1824.2.1 25 0 (fun q => absurd q.1 (by decide))).trans gP)), hP8, u1827.1, by omega, ?_, fun i hi => ?_, fun i hi => ?_⟩
  · rw [znu_n (by omega)]
    exact (hf5.1 25 2 (by decide) (by decide)).trans g40
  · rw [znu_n (by omega), znu_n (by omega), znu_n (by omega), znu_n (by omega)]
    obtain ⟨h1, h2, h3, h4⟩ := gp i hi
    exact ⟨(hf5.1 26 i (by decide) (by simp)).trans h1, (hf5.1 27 i (by decide) (by simp)).trans h2, (hf5.1 28 i (by decide) (by simp)).trans h3, (hf5.1 29 i (by decide) (by simp)).trans h4⟩
  · by_cases e : i = G
    · subst e; rw [znu_e]; exact (u1827.2.1 30 i (fun q => absurd q.1 (by decide))).trans u1824.1
    · rw [znu_n (by omega)]; exact (u1827.2.1 30 i (fun q => absurd q.1 (by decide))).trans ((u1824.2.1 30 i (fun q => e q.2)).trans (gg i (by omega)))
theorem zc_people {ph : pm_H} {ln : Nat} {t : Nat → Nat} {R C P G nx u fl hn : Nat} {rk : Nat → Bool} {v : Nat → Nat} {w : Nat → Nat → Nat} {sv : Nat → Nat → Nat} (hS : zSh ph) (hT : zTc ph ln t) (hB : zBd ph) (hK : zKC ph R C rk P G v nx u w fl sv hn) : zM 125 [.ref 0] ph (fun v0 q => zBd q ∧ ∃ z : Int32, v0 = some (.int z) ∧ z.toInt = zLa R C rk 4 5 ln t (8 - P) ∧ ((zLa R C rk 4 5 ln t (8 - P) ≤ 0 ∧ zKC q R C rk P G v nx u w fl sv hn) ∨ (∃ k : Nat, 0 < k ∧ (k : Int) = zLa R C rk 4 5 ln t (8 - P) ∧ (∀ l, l < k → zLg R C rk 4 ln t (5 * l) 4 = 4) ∧ zKC q R C rk (P + k) G (zPv C t P v k) nx 0 w 0 sv hn))) := by
  obtain ⟨Q, hQ⟩ : ∃ Q : Option Value → pm_H → Prop, Q = (fun v0 q => zBd q ∧ ∃ z : Int32, v0 = some (.int z) ∧ z.toInt = zLa R C rk 4 5 ln t (8 - P) ∧ ((zLa R C rk 4 5 ln t (8 - P) ≤ 0 ∧ zKC q R C rk P G v nx u w fl sv hn) ∨ (∃ k : Nat, 0 < k ∧ (k : Int) = zLa R C rk 4 5 ln t (8 - P) ∧ (∀ l, l < k → zLg R C rk 4 ln t (5 * l) 4 = 4) ∧ zKC q R C rk (P + k) G (zPv C t P v k) nx 0 w 0 sv hn))) := ⟨_, rfl⟩
  rw [← hQ]
  refine zM_mk fun n D => ?_
  show zW n D 125 Q 0 [some (.ref 0), none, none, none] [] ph
  have c_0 : ((Int8.ofInt 8).toInt32).toInt = 8 := by decide
  have c_1 : (Int32.ofInt 0).toInt = 0 := by decide
  have c_2 : (Int32.ofInt 1).toInt = 1 := by decide
  have c_3 : (Int32.ofInt 2).toInt = 2 := by decide
  have c_4 : (Int32.ofInt 3).toInt = 3 := by decide
  have c_5 : (Int32.ofInt 4).toInt = 4 := by decide
  obtain ⟨hL, hd, hU, hk, hh⟩ := hK
  obtain ⟨gP, hP8, gG, hG8, g40, gp, gg⟩ := id hd
  have tP := znt (k := P) (by omega)
  have tG := znt (k := G) (by omega)
  have hR37 : 3 ≤ R ∧ R ≤ 7 := ⟨hL.2.2.2.2.2.1, hL.2.2.2.2.2.2.1⟩
  have hC37 : 3 ≤ C ∧ C ≤ 7 := hL.2.2.2.2.2.2.2
  have hRC49 : R * C ≤ 49 := zRC49 hR37.2 hC37.2
  have hr := @zLa_r R C 4 5 ln (8 - P) rk t (by omega)
  refine w_load (pc' := 1) (v := .ref 0) (m := 1) (ykc_125 (e := (2, .aload_n kF0, 0)) rfl) rfl rfl ?_
  refine w_gf (pc' := 4) (v := .ref 154) (ykc_125 (e := (5, .getfield 62, 0)) rfl) rfl (zsg hS zs_0_8) rfl ?_
  refine w_load (pc' := 5) (v := .ref 0) (m := 1) (ykc_125 (e := (2, .aload_n kF0, 0)) rfl) rfl rfl ?_
  refine w_gf (pc' := 8) (v := .ref 1) (ykc_125 (e := (5, .getfield 10, 0)) rfl) rfl (zsg hS zs_0_0) rfl ?_
  refine w_load (pc' := 9) (v := .ref 0) (m := 1) (ykc_125 (e := (2, .aload_n kF0, 0)) rfl) rfl rfl ?_
  refine w_gf (pc' := 12) (v := .ref 5) (ykc_125 (e := (5, .getfield 26, 0)) rfl) rfl (zsg hS zs_0_2) rfl ?_
  refine w_alu (pc' := 13) (st' := [.int (Int32.ofInt 4), .ref 5, .ref 1, .ref 154]) (ykc_125 (e := (0, .iconst 4, 0)) rfl) rfl rfl ?_
  refine w_push (pc' := 15) (v := .int ((Int8.ofInt 8).toInt32)) (m := 2) (ykc_125 (e := (1, .bipush 8, 0)) rfl) rfl rfl ?_
  refine w_load (pc' := 16) (v := .ref 0) (m := 1) (ykc_125 (e := (2, .aload_n kF0, 0)) rfl) rfl rfl ?_
  refine w_gf (pc' := 19) (v := .ref 25) (ykc_125 (e := (5, .getfield 42, 0)) rfl) rfl (zsg hS zs_0_4) rfl ?_
  refine w_gf (pc' := 22) (v := .int (zn P)) (ykc_125 (e := (5, .getfield 130, 0)) rfl) rfl gP rfl ?_
  have e1829 : ((Int8.ofInt 8).toInt32) - (zn P) = zn (8 - P) := zsubN (a := 8) (b := P) c_0 (znt (by omega)) (by omega)
  have te1829 := znt (k := 8 - P) (by omega)
  refine w_alu (pc' := 23) (st' := [.int (zn (8 - P)), .int (Int32.ofInt 4), .ref 5, .ref 1, .ref 154]) (ykc_125 (e := (0, .isub, 0)) rfl) (by show some ([.int (((Int8.ofInt 8).toInt32) - (zn P)), .int (Int32.ofInt 4), .ref 5, .ref 1, .ref 154] : List Value) = _; rw [e1829]) rfl ?_
  refine w_cv (as := [.ref 154, .ref 1, .ref 5, .int (Int32.ofInt 4), .int (zn (8 - P))]) (r := []) (ykc_125 (e := (6, .invokevirtual 133, 0)) rfl) rfl rfl rfl rfl (zc_lread4 hS hL hT hB (by omega) (znt (by omega)) (by omega)) (fun v1830 ph1831 hv => ?_)
  obtain ⟨fr, hw, zl, rfl, ezl, hgl⟩ := hv
  show zW n D 125 Q 26 [some (.ref 0), none, none, none] [.int zl] ph1831
  refine w_store (pc' := 27) (L' := [some (.ref 0), some (.int zl), none, none]) (st' := []) (m := 1) (ykc_125 (e := (3, .istore_n kF1, 0)) rfl) rfl rfl ?_
  refine w_load (pc' := 28) (v := .ref 0) (m := 1) (ykc_125 (e := (2, .aload_n kF0, 0)) rfl) rfl rfl ?_
  refine w_gf (pc' := 31) (v := .ref 1) (ykc_125 (e := (5, .getfield 10, 0)) rfl) rfl ((fr.1 0 0 (by decide) (by decide)).trans (zsg hS zs_0_0)) rfl ?_
  refine w_cv (as := [.ref 1]) (r := []) (ykc_125 (e := (6, .invokevirtual 119, 0)) rfl) rfl rfl rfl rfl (zc_tclear) (fun v1832 ph1833 hv => ?_)
  obtain ⟨rfl, ft, gt1⟩ := hv
  show zW n D 125 Q 34 [some (.ref 0), some (.int zl), none, none] [] ph1833
  refine w_alu (pc' := 35) (st' := [.int (Int32.ofInt 0)]) (ykc_125 (e := (0, .iconst 0, 0)) rfl) rfl rfl ?_
  refine w_store (pc' := 36) (L' := [some (.ref 0), some (.int zl), some (.int (Int32.ofInt 0)), none]) (st' := []) (m := 1) (ykc_125 (e := (3, .istore_n kF2, 0)) rfl) rfl rfl ?_
  have f1 : zFr [155] [(1, 1), (154, 2), (156, 0), (156, 1)] ph ph1833 := zFr_trans (zFr_mono fr (by simp) (by simp)) (zFr_mono ft (by simp) (by simp))
  have hS1 := zSh_F f1 (by decide +kernel) hS
  have hL1 := zCl_F f1 (by simp) (by intro i hi; simp <;> omega) (by simp) hL
  have hd1 := zSd_F f1 (by intro i hi; simp <;> omega) (by intro j i hj; simp <;> omega) hd
  have hU1 := zCu_F f1 (by simp) (by simp) (by intro j h1 h2; simp <;> omega) (by intro j i h1 h2; simp <;> omega) hU
  have hk1 := zCk_F2 f1 (by simp) (by simp) (by intro j h1 h2; simp <;> omega) (by intro j i h1 h2; simp <;> omega) hk
  have hh1 : zCh ph1833 hn := ⟨(f1.1 0 14 (by decide) (by decide)).trans hh.1, hh.2⟩
  have hw1 := (ft.1 154 2 (by decide) (by decide)).trans hw
  have hB1 : zBd ph1833 := ⟨(f1.1 156 2 (by decide) (by decide)).trans hB.1, (f1.1 156 3 (by decide) (by decide)).trans hB.2⟩
  have hgl1 : ∀ l : Nat, (l : Int) < zLa R C rk 4 5 ln t (8 - P) → zLg R C rk 4 ln t (5 * l) 4 = 4 ∧ ∀ i, i < 4 → zc ph1833 155 (l * 4 + i) = some (.int (zn (t (5 * l + i) - 48))) := fun l hl => ⟨(hgl l hl).1, fun i hi => (ft.1 155 _ (by decide) (by simp)).trans ((hgl l hl).2 i hi)⟩
  have hl : ∀ (n : Nat), ∀ (k : Nat) (x3 : Option Value) (ph2 : pm_H), (k = 0 ∨ (k : Int) ≤ zLa R C rk 4 5 ln t (8 - P)) → (zFr [26, 27, 28, 29] [(25, 0)] ph1833 ph2) → (zSd ph2 25 (P + k) G (zPv C t P v k)) → zW n D 125 Q 36 [some (.ref 0), some (.int zl), some (.int (zn k)), x3] [] ph2 := by
    intro n
    induction n using Nat.strongRecOn with
    | ind n ih =>
      intro k x3 ph2 hk9 hf hd2
      have tk := znt (k := k) (by omega)
      have hS2 := zSh_F hf (by decide +kernel) hS1
      have hL2 := zCl_F hf (by simp) (by intro i hi; simp <;> omega) (by simp) hL1
      have hw2 := (hf.1 154 2 (by decide) (by decide)).trans hw1
      refine w_load (pc' := 37) (v := .int (zn k)) (m := 1) (ykc_125 (e := (2, .iload_n kF2, 0)) rfl) rfl rfl ?_
      refine w_load (pc' := 38) (v := .int zl) (m := 1) (ykc_125 (e := (2, .iload_n kF1, 0)) rfl) rfl rfl ?_
      refine w_ige (ykc_125 (e := (4, .if_icmp .ge 61, 99)) rfl) rfl (fun b1834 => ?_) (fun b1834 => ?_)
      · refine w_load (pc' := 100) (v := .int zl) (m := 1) (ykc_125 (e := (2, .iload_n kF1, 0)) rfl) rfl rfl ?_
        refine w_zle (ykc_125 (e := (4, .ifCond .le 10, 110)) rfl) rfl (fun b1835 => ?_) (fun b1835 => ?_)
        · refine w_load (pc' := 111) (v := .int zl) (m := 1) (ykc_125 (e := (2, .iload_n kF1, 0)) rfl) rfl rfl ?_
          refine w_ret (v := (some (.int zl))) (ykc_125 (e := (7, .ireturn, 0)) rfl) (zr_v rfl) ?_
          have ek : k = 0 := by omega
          subst ek
          rw [hQ]
          refine ⟨⟨(hf.1 156 2 (by decide) (by decide)).trans hB1.1, (hf.1 156 3 (by decide) (by decide)).trans hB1.2⟩, _, rfl, ezl, Or.inl ⟨by omega, hL2, hd2, zCu_F hf (by simp) (by simp) (by intro j h1 h2; simp <;> omega) (by intro j i h1 h2; simp <;> omega) hU1, zCk_F hf (by simp) (by simp) (by intro j h1 h2; simp <;> omega) (by intro j i h1 h2; simp <;> omega) hk1, (hf.1 0 14 (by decide) (by decide)).trans hh1.1, hh1.2⟩⟩
        · refine w_load (pc' := 104) (v := .ref 0) (m := 1) (ykc_125 (e := (2, .aload_n kF0, 0)) rfl) rfl rfl ?_
          refine w_gf (pc' := 107) (v := .ref 43) (ykc_125 (e := (5, .getfield 55, 0)) rfl) rfl (zsg hS2 zs_0_7) rfl ?_
          refine w_cv (as := [.ref 43]) (r := []) (ykc_125 (e := (6, .invokevirtual 123, 0)) rfl) rfl rfl rfl rfl (zc_hclear hS2) (fun v1836 ph1837 hv => ?_)
          obtain ⟨rfl, fh, gh2, gh4⟩ := hv
          show zW n D 125 Q 110 [some (.ref 0), some (.int zl), some (.int (zn k)), x3] [] ph1837
          refine w_load (pc' := 111) (v := .int zl) (m := 1) (ykc_125 (e := (2, .iload_n kF1, 0)) rfl) rfl rfl ?_
          refine w_ret (v := (some (.int zl))) (ykc_125 (e := (7, .ireturn, 0)) rfl) (zr_v rfl) ?_
          have f3 : zFr [26, 27, 28, 29] [(25, 0), (43, 2), (43, 4)] ph1833 _ := zFr_trans (zFr_mono hf (by simp) (by simp)) (zFr_mono fh (by simp) (by simp))
          rw [hQ]
          refine ⟨⟨(f3.1 156 2 (by decide) (by decide)).trans hB1.1, (f3.1 156 3 (by decide) (by decide)).trans hB1.2⟩, _, rfl, ezl, Or.inr ⟨k, by omega, by omega, fun l hl => (hgl1 l (by omega)).1, zCl_F f3 (by simp) (by intro i hi; simp <;> omega) (by simp) hL1, zSd_F fh (by intro i hi; simp) (by intro j i hj; simp <;> omega) hd2, ⟨(f3.1 43 1 (by decide) (by decide)).trans hU1.1, hU1.2.1, gh2, by decide, fun i hi => absurd hi (Nat.not_lt_zero i)⟩, ⟨gh4, by decide, fun i hi h => absurd h (by rw [Nat.zero_testBit]; decide)⟩, (f3.1 0 14 (by decide) (by decide)).trans hh1.1, hh1.2⟩⟩
      · have gk := (hgl1 k (by omega)).1
        have g0 := zLk_d (zLg_a gk 0 (by omega))
        have g1 := zLk_d (zLg_a gk 1 (by omega))
        have b0 : zLb R C 0 = R := rfl
        have b1 : zLb R C 1 = C := rfl
        have g2 := zLk_d (zLg_a gk 2 (by omega))
        have g3 := zLk_d (zLg_a gk 3 (by omega))
        have b2 : zLb R C 2 = 8 := rfl
        have b3 : zLb R C 3 = 5 := rfl
        rw [Nat.add_zero] at g0
        refine w_load (pc' := 42) (v := .ref 0) (m := 1) (ykc_125 (e := (2, .aload_n kF0, 0)) rfl) rfl rfl ?_
        refine w_gf (pc' := 45) (v := .ref 5) (ykc_125 (e := (5, .getfield 26, 0)) rfl) rfl (zsg hS2 zs_0_2) rfl ?_
        refine w_load (pc' := 46) (v := .ref 0) (m := 1) (ykc_125 (e := (2, .aload_n kF0, 0)) rfl) rfl rfl ?_
        refine w_gf (pc' := 49) (v := .ref 154) (ykc_125 (e := (5, .getfield 62, 0)) rfl) rfl (zsg hS2 zs_0_8) rfl ?_
        refine w_load (pc' := 50) (v := .int (zn k)) (m := 1) (ykc_125 (e := (2, .iload_n kF2, 0)) rfl) rfl rfl ?_
        refine w_alu (pc' := 51) (st' := [.int (Int32.ofInt 0), .int (zn k), .ref 154, .ref 5]) (ykc_125 (e := (0, .iconst 0, 0)) rfl) rfl rfl ?_
        refine w_cv (as := [.ref 154, .int (zn k), .int (Int32.ofInt 0)]) (r := [.ref 5]) (ykc_125 (e := (6, .invokevirtual 136, 0)) rfl) rfl rfl rfl rfl (zc_ldig4 (l := k) (i := 0) (d := t (5 * k) - 48) hS2 hw2 (by omega) (by omega) (by omega) (by omega) ((hf.1 155 _ (by decide) (by simp)).trans ((hgl1 k (by omega)).2 0 (by omega)))) (fun v1838 ph1839 hv => ?_)
        obtain ⟨rfl, rfl⟩ := hv
        have td0 := znt (k := t (5 * k) - 48) (by omega)
        show zW n D 125 Q 54 [some (.ref 0), some (.int zl), some (.int (zn k)), x3] [.int (zn (t (5 * k) - 48)), .ref 5] ph2
        refine w_load (pc' := 55) (v := .ref 0) (m := 1) (ykc_125 (e := (2, .aload_n kF0, 0)) rfl) rfl rfl ?_
        refine w_gf (pc' := 58) (v := .ref 154) (ykc_125 (e := (5, .getfield 62, 0)) rfl) rfl (zsg hS2 zs_0_8) rfl ?_
        refine w_load (pc' := 59) (v := .int (zn k)) (m := 1) (ykc_125 (e := (2, .iload_n kF2, 0)) rfl) rfl rfl ?_
        refine w_alu (pc' := 60) (st' := [.int (Int32.ofInt 1), .int (zn k), .ref 154, .int (zn (t (5 * k) - 48)), .ref 5]) (ykc_125 (e := (0, .iconst 1, 0)) rfl) rfl rfl ?_
        refine w_cv (as := [.ref 154, .int (zn k), .int (Int32.ofInt 1)]) (r := [.int (zn (t (5 * k) - 48)), .ref 5]) (ykc_125 (e := (6, .invokevirtual 136, 0)) rfl) rfl rfl rfl rfl (zc_ldig4 (l := k) (i := 1) (d := t (5 * k + 1) - 48) hS2 hw2 (by omega) (by omega) (by omega) (by omega) ((hf.1 155 _ (by decide) (by simp)).trans ((hgl1 k (by omega)).2 1 (by omega)))) (fun v1840 ph1841 hv => ?_)
        obtain ⟨rfl, rfl⟩ := hv
        have td1 := znt (k := t (5 * k + 1) - 48) (by omega)
        show zW n D 125 Q 63 [some (.ref 0), some (.int zl), some (.int (zn k)), x3] [.int (zn (t (5 * k + 1) - 48)), .int (zn (t (5 * k) - 48)), .ref 5] ph2
        refine w_cv (as := [.ref 5, .int (zn (t (5 * k) - 48)), .int (zn (t (5 * k + 1) - 48))]) (r := []) (ykc_125 (e := (6, .invokevirtual 140, 0)) rfl) rfl rfl rfl rfl (zc_fat hS2 hL2) (fun v1842 ph1843 hv => ?_)
        obtain ⟨rfl, zf, rfl, ef⟩ := hv
        rw [td0, td1, zLf_c (by omega) (by omega) (by omega) (by omega)] at ef
        have lf := zLf_lt (R := R) (C := C) (t := t) (p := 5 * k) (by omega) (by omega) (by omega) (by omega)
        show zW n D 125 Q 66 [some (.ref 0), some (.int zl), some (.int (zn k)), x3] [.int zf] ph2
        refine w_store (pc' := 67) (L' := [some (.ref 0), some (.int zl), some (.int (zn k)), some (.int zf)]) (st' := []) (m := 1) (ykc_125 (e := (3, .istore_n kF3, 0)) rfl) rfl rfl ?_
        refine w_load (pc' := 68) (v := .ref 0) (m := 1) (ykc_125 (e := (2, .aload_n kF0, 0)) rfl) rfl rfl ?_
        refine w_gf (pc' := 71) (v := .ref 25) (ykc_125 (e := (5, .getfield 42, 0)) rfl) rfl (zsg hS2 zs_0_4) rfl ?_
        refine w_load (pc' := 72) (v := .int zf) (m := 1) (ykc_125 (e := (2, .iload_n kF3, 0)) rfl) rfl rfl ?_
        refine w_load (pc' := 73) (v := .ref 0) (m := 1) (ykc_125 (e := (2, .aload_n kF0, 0)) rfl) rfl rfl ?_
        refine w_gf (pc' := 76) (v := .ref 154) (ykc_125 (e := (5, .getfield 62, 0)) rfl) rfl (zsg hS2 zs_0_8) rfl ?_
        refine w_load (pc' := 77) (v := .int (zn k)) (m := 1) (ykc_125 (e := (2, .iload_n kF2, 0)) rfl) rfl rfl ?_
        refine w_alu (pc' := 78) (st' := [.int (Int32.ofInt 2), .int (zn k), .ref 154, .int zf, .ref 25]) (ykc_125 (e := (0, .iconst 2, 0)) rfl) rfl rfl ?_
        refine w_cv (as := [.ref 154, .int (zn k), .int (Int32.ofInt 2)]) (r := [.int zf, .ref 25]) (ykc_125 (e := (6, .invokevirtual 136, 0)) rfl) rfl rfl rfl rfl (zc_ldig4 (l := k) (i := 2) (d := t (5 * k + 2) - 48) hS2 hw2 (by omega) (by omega) (by omega) (by omega) ((hf.1 155 _ (by decide) (by simp)).trans ((hgl1 k (by omega)).2 2 (by omega)))) (fun v1844 ph1845 hv => ?_)
        obtain ⟨rfl, rfl⟩ := hv
        have td2 := znt (k := t (5 * k + 2) - 48) (by omega)
        show zW n D 125 Q 81 [some (.ref 0), some (.int zl), some (.int (zn k)), some (.int zf)] [.int (zn (t (5 * k + 2) - 48)), .int zf, .ref 25] ph2
        refine w_load (pc' := 82) (v := .ref 0) (m := 1) (ykc_125 (e := (2, .aload_n kF0, 0)) rfl) rfl rfl ?_
        refine w_gf (pc' := 85) (v := .ref 154) (ykc_125 (e := (5, .getfield 62, 0)) rfl) rfl (zsg hS2 zs_0_8) rfl ?_
        refine w_load (pc' := 86) (v := .int (zn k)) (m := 1) (ykc_125 (e := (2, .iload_n kF2, 0)) rfl) rfl rfl ?_
        refine w_alu (pc' := 87) (st' := [.int (Int32.ofInt 3), .int (zn k), .ref 154, .int (zn (t (5 * k + 2) - 48)), .int zf, .ref 25]) (ykc_125 (e := (0, .iconst 3, 0)) rfl) rfl rfl ?_
        refine w_cv (as := [.ref 154, .int (zn k), .int (Int32.ofInt 3)]) (r := [.int (zn (t (5 * k + 2) - 48)), .int zf, .ref 25]) (ykc_125 (e := (6, .invokevirtual 136, 0)) rfl) rfl rfl rfl rfl (zc_ldig4 (l := k) (i := 3) (d := t (5 * k + 3) - 48) hS2 hw2 (by omega) (by omega) (by omega) (by omega) ((hf.1 155 _ (by decide) (by simp)).trans ((hgl1 k (by omega)).2 3 (by omega)))) (fun v1846 ph1847 hv => ?_)
        obtain ⟨rfl, rfl⟩ := hv
        have td3 := znt (k := t (5 * k + 3) - 48) (by omega)
        show zW n D 125 Q 90 [some (.ref 0), some (.int zl), some (.int (zn k)), some (.int zf)] [.int (zn (t (5 * k + 3) - 48)), .int (zn (t (5 * k + 2) - 48)), .int zf, .ref 25] ph2
        refine w_cv (as := [.ref 25, .int zf, .int (zn (t (5 * k + 2) - 48)), .int (zn (t (5 * k + 3) - 48))]) (r := []) (ykc_125 (e := (6, .invokevirtual 143, 0)) rfl) rfl rfl rfl rfl (zc_addP hS2 hd2 (zn_of ef) rfl rfl (by omega)) (fun v1848 ph1849 hv => ?_)
        obtain ⟨rfl, fa, hd3⟩ := hv
        show zW n D 125 Q 93 [some (.ref 0), some (.int zl), some (.int (zn k)), some (.int zf)] [] ph1849
        have e1850 : (zn k) + Int32.ofInt 1 = zn (k + 1) := (zaddN (a := k) (b := 1) (znt (by omega)) c_2 (by omega))
        have te1850 := znt (k := k + 1) (by omega)
        refine w_store (pc' := 96) (L' := [some (.ref 0), some (.int zl), some (.int (zn (k + 1))), some (.int zf)]) (st' := []) (m := 3) (ykc_125 (e := (3, .iinc 2 1, 0)) rfl) (by rw [← e1850]; rfl) rfl ?_
        refine w_gb (ykc_125 (e := (4, .goto (-60), 36)) rfl) (fun k1851 hk1851 => ?_)
        exact ih k1851 hk1851 (k + 1) _ _ (Or.inr (by omega)) (zFr_trans hf (zFr_mono fa (by simp) (by simp))) hd3
  exact hl n 0 _ ph1833 (Or.inl rfl) zFr_refl hd1
theorem zc_things {ph : pm_H} {ln : Nat} {t : Nat → Nat} {R C P G nx u fl hn : Nat} {rk : Nat → Bool} {v : Nat → Nat} {w : Nat → Nat → Nat} {sv : Nat → Nat → Nat} (hS : zSh ph) (hT : zTc ph ln t) (hB : zBd ph) (hK : zKC ph R C rk P G v nx u w fl sv hn) : zM 126 [.ref 0] ph (fun v0 q => zBd q ∧ ∃ z : Int32, v0 = some (.int z) ∧ z.toInt = zLa R C rk 2 3 ln t (8 - G) ∧ ((zLa R C rk 2 3 ln t (8 - G) ≤ 0 ∧ zKC q R C rk P G v nx u w fl sv hn) ∨ (∃ k : Nat, 0 < k ∧ (k : Int) = zLa R C rk 2 3 ln t (8 - G) ∧ (∀ l, l < k → zLg R C rk 2 ln t (3 * l) 2 = 2) ∧ zKC q R C rk P (G + k) (zGv C t G v k) nx 0 w 0 sv hn))) := by
  obtain ⟨Q, hQ⟩ : ∃ Q : Option Value → pm_H → Prop, Q = (fun v0 q => zBd q ∧ ∃ z : Int32, v0 = some (.int z) ∧ z.toInt = zLa R C rk 2 3 ln t (8 - G) ∧ ((zLa R C rk 2 3 ln t (8 - G) ≤ 0 ∧ zKC q R C rk P G v nx u w fl sv hn) ∨ (∃ k : Nat, 0 < k ∧ (k : Int) = zLa R C rk 2 3 ln t (8 - G) ∧ (∀ l, l < k → zLg R C rk 2 ln t (3 * l) 2 = 2) ∧ zKC q R C rk P (G + k) (zGv C t G v k) nx 0 w 0 sv hn))) := ⟨_, rfl⟩
  rw [← hQ]
  refine zM_mk fun n D => ?_
  show zW n D 126 Q 0 [some (.ref 0), none, none] [] ph
  have c_0 : ((Int8.ofInt 8).toInt32).toInt = 8 := by decide
  have c_1 : (Int32.ofInt 0).toInt = 0 := by decide
  have c_2 : (Int32.ofInt 1).toInt = 1 := by decide
  have c_3 : (Int32.ofInt 2).toInt = 2 := by decide
  obtain ⟨hL, hd, hU, hk, hh⟩ := hK
  obtain ⟨gP, hP8, gG, hG8, g40, gp, gg⟩ := id hd
  have tP := znt (k := P) (by omega)
  have tG := znt (k := G) (by omega)
  have hR37 : 3 ≤ R ∧ R ≤ 7 := ⟨hL.2.2.2.2.2.1, hL.2.2.2.2.2.2.1⟩
  have hC37 : 3 ≤ C ∧ C ≤ 7 := hL.2.2.2.2.2.2.2
  have hRC49 : R * C ≤ 49 := zRC49 hR37.2 hC37.2
  have hr := @zLa_r R C 2 3 ln (8 - G) rk t (by omega)
  refine w_load (pc' := 1) (v := .ref 0) (m := 1) (ykc_126 (e := (2, .aload_n kF0, 0)) rfl) rfl rfl ?_
  refine w_gf (pc' := 4) (v := .ref 154) (ykc_126 (e := (5, .getfield 62, 0)) rfl) rfl (zsg hS zs_0_8) rfl ?_
  refine w_load (pc' := 5) (v := .ref 0) (m := 1) (ykc_126 (e := (2, .aload_n kF0, 0)) rfl) rfl rfl ?_
  refine w_gf (pc' := 8) (v := .ref 1) (ykc_126 (e := (5, .getfield 10, 0)) rfl) rfl (zsg hS zs_0_0) rfl ?_
  refine w_load (pc' := 9) (v := .ref 0) (m := 1) (ykc_126 (e := (2, .aload_n kF0, 0)) rfl) rfl rfl ?_
  refine w_gf (pc' := 12) (v := .ref 5) (ykc_126 (e := (5, .getfield 26, 0)) rfl) rfl (zsg hS zs_0_2) rfl ?_
  refine w_alu (pc' := 13) (st' := [.int (Int32.ofInt 2), .ref 5, .ref 1, .ref 154]) (ykc_126 (e := (0, .iconst 2, 0)) rfl) rfl rfl ?_
  refine w_push (pc' := 15) (v := .int ((Int8.ofInt 8).toInt32)) (m := 2) (ykc_126 (e := (1, .bipush 8, 0)) rfl) rfl rfl ?_
  refine w_load (pc' := 16) (v := .ref 0) (m := 1) (ykc_126 (e := (2, .aload_n kF0, 0)) rfl) rfl rfl ?_
  refine w_gf (pc' := 19) (v := .ref 25) (ykc_126 (e := (5, .getfield 42, 0)) rfl) rfl (zsg hS zs_0_4) rfl ?_
  refine w_gf (pc' := 22) (v := .int (zn G)) (ykc_126 (e := (5, .getfield 147, 0)) rfl) rfl gG rfl ?_
  have e1852 : ((Int8.ofInt 8).toInt32) - (zn G) = zn (8 - G) := zsubN (a := 8) (b := G) c_0 (znt (by omega)) (by omega)
  have te1852 := znt (k := 8 - G) (by omega)
  refine w_alu (pc' := 23) (st' := [.int (zn (8 - G)), .int (Int32.ofInt 2), .ref 5, .ref 1, .ref 154]) (ykc_126 (e := (0, .isub, 0)) rfl) (by show some ([.int (((Int8.ofInt 8).toInt32) - (zn G)), .int (Int32.ofInt 2), .ref 5, .ref 1, .ref 154] : List Value) = _; rw [e1852]) rfl ?_
  refine w_cv (as := [.ref 154, .ref 1, .ref 5, .int (Int32.ofInt 2), .int (zn (8 - G))]) (r := []) (ykc_126 (e := (6, .invokevirtual 133, 0)) rfl) rfl rfl rfl rfl (zc_lread2 hS hL hT hB (by omega) (znt (by omega)) (by omega)) (fun v1853 ph1854 hv => ?_)
  obtain ⟨fr, hw, zl, rfl, ezl, hgl⟩ := hv
  show zW n D 126 Q 26 [some (.ref 0), none, none] [.int zl] ph1854
  refine w_store (pc' := 27) (L' := [some (.ref 0), some (.int zl), none]) (st' := []) (m := 1) (ykc_126 (e := (3, .istore_n kF1, 0)) rfl) rfl rfl ?_
  refine w_load (pc' := 28) (v := .ref 0) (m := 1) (ykc_126 (e := (2, .aload_n kF0, 0)) rfl) rfl rfl ?_
  refine w_gf (pc' := 31) (v := .ref 1) (ykc_126 (e := (5, .getfield 10, 0)) rfl) rfl ((fr.1 0 0 (by decide) (by decide)).trans (zsg hS zs_0_0)) rfl ?_
  refine w_cv (as := [.ref 1]) (r := []) (ykc_126 (e := (6, .invokevirtual 119, 0)) rfl) rfl rfl rfl rfl (zc_tclear) (fun v1855 ph1856 hv => ?_)
  obtain ⟨rfl, ft, gt1⟩ := hv
  show zW n D 126 Q 34 [some (.ref 0), some (.int zl), none] [] ph1856
  refine w_alu (pc' := 35) (st' := [.int (Int32.ofInt 0)]) (ykc_126 (e := (0, .iconst 0, 0)) rfl) rfl rfl ?_
  refine w_store (pc' := 36) (L' := [some (.ref 0), some (.int zl), some (.int (Int32.ofInt 0))]) (st' := []) (m := 1) (ykc_126 (e := (3, .istore_n kF2, 0)) rfl) rfl rfl ?_
  have f1 : zFr [155] [(1, 1), (154, 2), (156, 0), (156, 1)] ph ph1856 := zFr_trans (zFr_mono fr (by simp) (by simp)) (zFr_mono ft (by simp) (by simp))
  have hS1 := zSh_F f1 (by decide +kernel) hS
  have hL1 := zCl_F f1 (by simp) (by intro i hi; simp <;> omega) (by simp) hL
  have hd1 := zSd_F f1 (by intro i hi; simp <;> omega) (by intro j i hj; simp <;> omega) hd
  have hU1 := zCu_F f1 (by simp) (by simp) (by intro j h1 h2; simp <;> omega) (by intro j i h1 h2; simp <;> omega) hU
  have hk1 := zCk_F2 f1 (by simp) (by simp) (by intro j h1 h2; simp <;> omega) (by intro j i h1 h2; simp <;> omega) hk
  have hh1 : zCh ph1856 hn := ⟨(f1.1 0 14 (by decide) (by decide)).trans hh.1, hh.2⟩
  have hw1 := (ft.1 154 2 (by decide) (by decide)).trans hw
  have hB1 : zBd ph1856 := ⟨(f1.1 156 2 (by decide) (by decide)).trans hB.1, (f1.1 156 3 (by decide) (by decide)).trans hB.2⟩
  have hgl1 : ∀ l : Nat, (l : Int) < zLa R C rk 2 3 ln t (8 - G) → zLg R C rk 2 ln t (3 * l) 2 = 2 ∧ ∀ i, i < 2 → zc ph1856 155 (l * 2 + i) = some (.int (zn (t (3 * l + i) - 48))) := fun l hl => ⟨(hgl l hl).1, fun i hi => (ft.1 155 _ (by decide) (by simp)).trans ((hgl l hl).2 i hi)⟩
  have hl : ∀ (n : Nat), ∀ (k : Nat) (ph2 : pm_H), (k = 0 ∨ (k : Int) ≤ zLa R C rk 2 3 ln t (8 - G)) → (zFr [30] [(25, 1)] ph1856 ph2) → (zSd ph2 25 P (G + k) (zGv C t G v k)) → zW n D 126 Q 36 [some (.ref 0), some (.int zl), some (.int (zn k))] [] ph2 := by
    intro n
    induction n using Nat.strongRecOn with
    | ind n ih =>
      intro k ph2 hk9 hf hd2
      have tk := znt (k := k) (by omega)
      have hS2 := zSh_F hf (by decide +kernel) hS1
      have hL2 := zCl_F hf (by simp) (by intro i hi; simp <;> omega) (by simp) hL1
      have hw2 := (hf.1 154 2 (by decide) (by decide)).trans hw1
      refine w_load (pc' := 37) (v := .int (zn k)) (m := 1) (ykc_126 (e := (2, .iload_n kF2, 0)) rfl) rfl rfl ?_
      refine w_load (pc' := 38) (v := .int zl) (m := 1) (ykc_126 (e := (2, .iload_n kF1, 0)) rfl) rfl rfl ?_
      refine w_ige (ykc_126 (e := (4, .if_icmp .ge 41, 79)) rfl) rfl (fun b1857 => ?_) (fun b1857 => ?_)
      · refine w_load (pc' := 80) (v := .int zl) (m := 1) (ykc_126 (e := (2, .iload_n kF1, 0)) rfl) rfl rfl ?_
        refine w_zle (ykc_126 (e := (4, .ifCond .le 10, 90)) rfl) rfl (fun b1858 => ?_) (fun b1858 => ?_)
        · refine w_load (pc' := 91) (v := .int zl) (m := 1) (ykc_126 (e := (2, .iload_n kF1, 0)) rfl) rfl rfl ?_
          refine w_ret (v := (some (.int zl))) (ykc_126 (e := (7, .ireturn, 0)) rfl) (zr_v rfl) ?_
          have ek : k = 0 := by omega
          subst ek
          rw [hQ]
          refine ⟨⟨(hf.1 156 2 (by decide) (by decide)).trans hB1.1, (hf.1 156 3 (by decide) (by decide)).trans hB1.2⟩, _, rfl, ezl, Or.inl ⟨by omega, hL2, hd2, zCu_F hf (by simp) (by simp) (by intro j h1 h2; simp <;> omega) (by intro j i h1 h2; simp <;> omega) hU1, zCk_F hf (by simp) (by simp) (by intro j h1 h2; simp <;> omega) (by intro j i h1 h2; simp <;> omega) hk1, (hf.1 0 14 (by decide) (by decide)).trans hh1.1, hh1.2⟩⟩
        · refine w_load (pc' := 84) (v := .ref 0) (m := 1) (ykc_126 (e := (2, .aload_n kF0, 0)) rfl) rfl rfl ?_
          refine w_gf (pc' := 87) (v := .ref 43) (ykc_126 (e := (5, .getfield 55, 0)) rfl) rfl (zsg hS2 zs_0_7) rfl ?_
          refine w_cv (as := [.ref 43]) (r := []) (ykc_126 (e := (6, .invokevirtual 123, 0)) rfl) rfl rfl rfl rfl (zc_hclear hS2) (fun v1859 ph1860 hv => ?_)
          obtain ⟨rfl, fh, gh2, gh4⟩ := hv
          show zW n D 126 Q 90 [some (.ref 0), some (.int zl), some (.int (zn k))] [] ph1860
          refine w_load (pc' := 91) (v := .int zl) (m := 1) (ykc_126 (e := (2, .iload_n kF1, 0)) rfl) rfl rfl ?_
          refine w_ret (v := (some (.int zl))) (ykc_126 (e := (7, .ireturn, 0)) rfl) (zr_v rfl) ?_
          have f3 : zFr [30] [(25, 1), (43, 2), (43, 4)] ph1856 _ := zFr_trans (zFr_mono hf (by simp) (by simp)) (zFr_mono fh (by simp) (by simp))
          rw [hQ]
          refine ⟨⟨(f3.1 156 2 (by decide) (by decide)).trans hB1.1, (f3.1 156 3 (by decide) (by decide)).trans hB1.2⟩, _, rfl, ezl, Or.inr ⟨k, by omega, by omega, fun l hl => (hgl1 l (by omega)).1, zCl_F f3 (by simp) (by intro i hi; simp <;> omega) (by simp) hL1, zSd_F fh (by intro i hi; simp) (by intro j i hj; simp <;> omega) hd2, ⟨(f3.1 43 1 (by decide) (by decide)).trans hU1.1, hU1.2.1, gh2, by decide, fun i hi => absurd hi (Nat.not_lt_zero i)⟩, ⟨gh4, by decide, fun i hi h => absurd h (by rw [Nat.zero_testBit]; decide)⟩, (f3.1 0 14 (by decide) (by decide)).trans hh1.1, hh1.2⟩⟩
      · have gk := (hgl1 k (by omega)).1
        have g0 := zLk_d (zLg_a gk 0 (by omega))
        have g1 := zLk_d (zLg_a gk 1 (by omega))
        have b0 : zLb R C 0 = R := rfl
        have b1 : zLb R C 1 = C := rfl
        rw [Nat.add_zero] at g0
        refine w_load (pc' := 42) (v := .ref 0) (m := 1) (ykc_126 (e := (2, .aload_n kF0, 0)) rfl) rfl rfl ?_
        refine w_gf (pc' := 45) (v := .ref 25) (ykc_126 (e := (5, .getfield 42, 0)) rfl) rfl (zsg hS2 zs_0_4) rfl ?_
        refine w_load (pc' := 46) (v := .ref 0) (m := 1) (ykc_126 (e := (2, .aload_n kF0, 0)) rfl) rfl rfl ?_
        refine w_gf (pc' := 49) (v := .ref 5) (ykc_126 (e := (5, .getfield 26, 0)) rfl) rfl (zsg hS2 zs_0_2) rfl ?_
        refine w_load (pc' := 50) (v := .ref 0) (m := 1) (ykc_126 (e := (2, .aload_n kF0, 0)) rfl) rfl rfl ?_
        refine w_gf (pc' := 53) (v := .ref 154) (ykc_126 (e := (5, .getfield 62, 0)) rfl) rfl (zsg hS2 zs_0_8) rfl ?_
        refine w_load (pc' := 54) (v := .int (zn k)) (m := 1) (ykc_126 (e := (2, .iload_n kF2, 0)) rfl) rfl rfl ?_
        refine w_alu (pc' := 55) (st' := [.int (Int32.ofInt 0), .int (zn k), .ref 154, .ref 5, .ref 25]) (ykc_126 (e := (0, .iconst 0, 0)) rfl) rfl rfl ?_
        refine w_cv (as := [.ref 154, .int (zn k), .int (Int32.ofInt 0)]) (r := [.ref 5, .ref 25]) (ykc_126 (e := (6, .invokevirtual 136, 0)) rfl) rfl rfl rfl rfl (zc_ldig2 (l := k) (i := 0) (d := t (3 * k) - 48) hS2 hw2 (by omega) (by omega) (by omega) (by omega) ((hf.1 155 _ (by decide) (by simp)).trans ((hgl1 k (by omega)).2 0 (by omega)))) (fun v1861 ph1862 hv => ?_)
        obtain ⟨rfl, rfl⟩ := hv
        have td0 := znt (k := t (3 * k) - 48) (by omega)
        show zW n D 126 Q 58 [some (.ref 0), some (.int zl), some (.int (zn k))] [.int (zn (t (3 * k) - 48)), .ref 5, .ref 25] ph2
        refine w_load (pc' := 59) (v := .ref 0) (m := 1) (ykc_126 (e := (2, .aload_n kF0, 0)) rfl) rfl rfl ?_
        refine w_gf (pc' := 62) (v := .ref 154) (ykc_126 (e := (5, .getfield 62, 0)) rfl) rfl (zsg hS2 zs_0_8) rfl ?_
        refine w_load (pc' := 63) (v := .int (zn k)) (m := 1) (ykc_126 (e := (2, .iload_n kF2, 0)) rfl) rfl rfl ?_
        refine w_alu (pc' := 64) (st' := [.int (Int32.ofInt 1), .int (zn k), .ref 154, .int (zn (t (3 * k) - 48)), .ref 5, .ref 25]) (ykc_126 (e := (0, .iconst 1, 0)) rfl) rfl rfl ?_
        refine w_cv (as := [.ref 154, .int (zn k), .int (Int32.ofInt 1)]) (r := [.int (zn (t (3 * k) - 48)), .ref 5, .ref 25]) (ykc_126 (e := (6, .invokevirtual 136, 0)) rfl) rfl rfl rfl rfl (zc_ldig2 (l := k) (i := 1) (d := t (3 * k + 1) - 48) hS2 hw2 (by omega) (by omega) (by omega) (by omega) ((hf.1 155 _ (by decide) (by simp)).trans ((hgl1 k (by omega)).2 1 (by omega)))) (fun v1863 ph1864 hv => ?_)
        obtain ⟨rfl, rfl⟩ := hv
        have td1 := znt (k := t (3 * k + 1) - 48) (by omega)
        show zW n D 126 Q 67 [some (.ref 0), some (.int zl), some (.int (zn k))] [.int (zn (t (3 * k + 1) - 48)), .int (zn (t (3 * k) - 48)), .ref 5, .ref 25] ph2
        refine w_cv (as := [.ref 5, .int (zn (t (3 * k) - 48)), .int (zn (t (3 * k + 1) - 48))]) (r := [.ref 25]) (ykc_126 (e := (6, .invokevirtual 140, 0)) rfl) rfl rfl rfl rfl (zc_fat hS2 hL2) (fun v1865 ph1866 hv => ?_)
        obtain ⟨rfl, zf, rfl, ef⟩ := hv
        rw [td0, td1, zLf_c (by omega) (by omega) (by omega) (by omega)] at ef
        have lf := zLf_lt (R := R) (C := C) (t := t) (p := 3 * k) (by omega) (by omega) (by omega) (by omega)
        show zW n D 126 Q 70 [some (.ref 0), some (.int zl), some (.int (zn k))] [.int zf, .ref 25] ph2
        refine w_cv (as := [.ref 25, .int zf]) (r := []) (ykc_126 (e := (6, .invokevirtual 150, 0)) rfl) rfl rfl rfl rfl (zc_addT hS2 hd2 (zn_of ef) (by omega)) (fun v1867 ph1868 hv => ?_)
        obtain ⟨rfl, fa, hd3⟩ := hv
        show zW n D 126 Q 73 [some (.ref 0), some (.int zl), some (.int (zn k))] [] ph1868
        have e1869 : (zn k) + Int32.ofInt 1 = zn (k + 1) := (zaddN (a := k) (b := 1) (znt (by omega)) c_2 (by omega))
        have te1869 := znt (k := k + 1) (by omega)
        refine w_store (pc' := 76) (L' := [some (.ref 0), some (.int zl), some (.int (zn (k + 1)))]) (st' := []) (m := 3) (ykc_126 (e := (3, .iinc 2 1, 0)) rfl) (by rw [← e1869]; rfl) rfl ?_
        refine w_gb (ykc_126 (e := (4, .goto (-40), 36)) rfl) (fun k1870 hk1870 => ?_)
        exact ih k1870 hk1870 (k + 1) _ (Or.inr (by omega)) (zFr_trans hf (zFr_mono fa (by simp) (by simp))) hd3
  exact hl n 0 ph1856 (Or.inl rfl) zFr_refl hd1
end
section
/-! people and things of the reference, by W; printed by wip/z/z1f_mpeople.py -/
theorem zm_rfield {ph : pm_H} {R C a b ln : Nat} {rk : Nat → Bool} {t : Nat → Nat} (hS : zSh ph) (hL : zMl ph R C rk) (hT : zTm ph a b ln t) : zM 203 [.ref 170] ph (fun v0 q => zFr [] [(170, 15)] ph q ∧ ((zLd b t R a = true ∧ zLd b t C (a + 1) = true ∧ v0 = some (.int (zn (zLf C t a))) ∧ zTm q (a + 2) b ln t) ∨ (zLd b t R a = true ∧ zLd b t C (a + 1) = false ∧ v0 = some (.int (Int32.ofInt (-1))) ∧ zTm q (a + 1) b ln t) ∨ (zLd b t R a = false ∧ v0 = some (.int (Int32.ofInt (-1))) ∧ zTm q a b ln t))) := by
  obtain ⟨Q, hQ⟩ : ∃ Q : Option Value → pm_H → Prop, Q = (fun v0 q => zFr [] [(170, 15)] ph q ∧ ((zLd b t R a = true ∧ zLd b t C (a + 1) = true ∧ v0 = some (.int (zn (zLf C t a))) ∧ zTm q (a + 2) b ln t) ∨ (zLd b t R a = true ∧ zLd b t C (a + 1) = false ∧ v0 = some (.int (Int32.ofInt (-1))) ∧ zTm q (a + 1) b ln t) ∨ (zLd b t R a = false ∧ v0 = some (.int (Int32.ofInt (-1))) ∧ zTm q a b ln t))) := ⟨_, rfl⟩
  rw [← hQ]
  refine zM_mk fun n D => ?_
  show zW n D 203 Q 0 [some (.ref 170), none, none] [] ph
  have c_0 : (Int32.ofInt (-1)).toInt = -1 := by decide
  have c_1 : (Int32.ofInt 0).toInt = 0 := by decide
  have c_2 : (Int32.ofInt 1).toInt = 1 := by decide
  have hab := hT.2.2.1
  have hbln := hT.2.2.2.1
  have hb80 : b ≤ 80 := Nat.le_trans hT.2.2.2.1 hT.2.2.2.2.1
  obtain ⟨gR, gC, gK, hR3, hR7, hC3, hC7⟩ := hL
  have tR := znt (k := R) (by omega)
  have tC := znt (k := C) (by omega)
  refine w_load (pc' := 1) (v := .ref 170) (m := 1) (ykc_203 (e := (2, .aload_n kF0, 0)) rfl) rfl rfl ?_
  refine w_alu (pc' := 2) (st' := [.int (Int32.ofInt 0), .ref 170]) (ykc_203 (e := (0, .iconst 0, 0)) rfl) rfl rfl ?_
  refine w_load (pc' := 3) (v := .ref 170) (m := 1) (ykc_203 (e := (2, .aload_n kF0, 0)) rfl) rfl rfl ?_
  refine w_gf (pc' := 6) (v := .int (zn R)) (ykc_203 (e := (5, .getfield 24, 0)) rfl) rfl gR rfl ?_
  refine w_alu (pc' := 7) (st' := [.int (Int32.ofInt 1), .int (zn R), .int (Int32.ofInt 0), .ref 170]) (ykc_203 (e := (0, .iconst 1, 0)) rfl) rfl rfl ?_
  have e1871 : (zn R) - (Int32.ofInt 1) = zn (R - 1) := zsubN (a := R) (b := 1) tR c_2 (by omega)
  have te1871 := znt (k := R - 1) (by omega)
  refine w_alu (pc' := 8) (st' := [.int (zn (R - 1)), .int (Int32.ofInt 0), .ref 170]) (ykc_203 (e := (0, .isub, 0)) rfl) (by show some ([.int ((zn R) - (Int32.ofInt 1)), .int (Int32.ofInt 0), .ref 170] : List Value) = _; rw [e1871]) rfl ?_
  refine w_cv (as := [.ref 170, .int (Int32.ofInt 0), .int (zn (R - 1))]) (r := []) (ykc_203 (e := (6, .invokevirtual 179, 0)) rfl) rfl rfl rfl rfl (zm_digitIn hS hT (l := 0) (h := R - 1) (by omega) (by omega)) (fun v1872 ph1873 hv => ?_)
  rcases hv with ⟨fd0, ⟨hc0, rfl, hfd0⟩ | ⟨hc0, rfl, hfd0⟩⟩
  · have r1 : zLd b t R a = true := decide_eq_true (by omega)
    have hb9 := hfd0.2.2.2.2.2 a (by omega)
    have td0 := znt (k := t a - 48) (by omega)
    show zW n D 203 Q 11 [some (.ref 170), none, none] [.int (zn (t a - 48))] ph1873
    refine w_store (pc' := 12) (L' := [some (.ref 170), some (.int (zn (t a - 48))), none]) (st' := []) (m := 1) (ykc_203 (e := (3, .istore_n kF1, 0)) rfl) rfl rfl ?_
    refine w_load (pc' := 13) (v := .int (zn (t a - 48))) (m := 1) (ykc_203 (e := (2, .iload_n kF1, 0)) rfl) rfl rfl ?_
    refine w_zge (ykc_203 (e := (4, .ifCond .ge 7, 20)) rfl) rfl (fun b1874 => ?_) (fun q => by exfalso; omega)
    refine w_load (pc' := 21) (v := .ref 170) (m := 1) (ykc_203 (e := (2, .aload_n kF0, 0)) rfl) rfl rfl ?_
    refine w_alu (pc' := 22) (st' := [.int (Int32.ofInt 0), .ref 170]) (ykc_203 (e := (0, .iconst 0, 0)) rfl) rfl rfl ?_
    refine w_load (pc' := 23) (v := .ref 170) (m := 1) (ykc_203 (e := (2, .aload_n kF0, 0)) rfl) rfl rfl ?_
    refine w_gf (pc' := 26) (v := .int (zn C)) (ykc_203 (e := (5, .getfield 27, 0)) rfl) rfl ((fd0.1 170 4 (by decide) (by decide)).trans gC) rfl ?_
    refine w_alu (pc' := 27) (st' := [.int (Int32.ofInt 1), .int (zn C), .int (Int32.ofInt 0), .ref 170]) (ykc_203 (e := (0, .iconst 1, 0)) rfl) rfl rfl ?_
    have e1875 : (zn C) - (Int32.ofInt 1) = zn (C - 1) := zsubN (a := C) (b := 1) tC c_2 (by omega)
    have te1875 := znt (k := C - 1) (by omega)
    refine w_alu (pc' := 28) (st' := [.int (zn (C - 1)), .int (Int32.ofInt 0), .ref 170]) (ykc_203 (e := (0, .isub, 0)) rfl) (by show some ([.int ((zn C) - (Int32.ofInt 1)), .int (Int32.ofInt 0), .ref 170] : List Value) = _; rw [e1875]) rfl ?_
    refine w_cv (as := [.ref 170, .int (Int32.ofInt 0), .int (zn (C - 1))]) (r := []) (ykc_203 (e := (6, .invokevirtual 179, 0)) rfl) rfl rfl rfl rfl (zm_digitIn (zF15_S fd0 hS) hfd0 (l := 0) (h := C - 1) (by omega) (by omega)) (fun v1876 ph1877 hv => ?_)
    rcases hv with ⟨fd1, ⟨hc1, rfl, hfd1⟩ | ⟨hc1, rfl, hfd1⟩⟩
    · have r2 : zLd b t C (a + 1) = true := decide_eq_true (by omega)
      have hb8 := hfd0.2.2.2.2.2 (a + 1) (by omega)
      have td1 := znt (k := t (a + 1) - 48) (by omega)
      show zW n D 203 Q 31 [some (.ref 170), some (.int (zn (t a - 48))), none] [.int (zn (t (a + 1) - 48))] ph1877
      refine w_store (pc' := 32) (L' := [some (.ref 170), some (.int (zn (t a - 48))), some (.int (zn (t (a + 1) - 48)))]) (st' := []) (m := 1) (ykc_203 (e := (3, .istore_n kF2, 0)) rfl) rfl rfl ?_
      refine w_load (pc' := 33) (v := .int (zn (t (a + 1) - 48))) (m := 1) (ykc_203 (e := (2, .iload_n kF2, 0)) rfl) rfl rfl ?_
      refine w_zge (ykc_203 (e := (4, .ifCond .ge 7, 40)) rfl) rfl (fun b1878 => ?_) (fun q => by exfalso; omega)
      refine w_load (pc' := 41) (v := .ref 170) (m := 1) (ykc_203 (e := (2, .aload_n kF0, 0)) rfl) rfl rfl ?_
      refine w_gf (pc' := 44) (v := .int (zn C)) (ykc_203 (e := (5, .getfield 27, 0)) rfl) rfl ((fd1.1 170 4 (by decide) (by decide)).trans ((fd0.1 170 4 (by decide) (by decide)).trans gC)) rfl ?_
      refine w_load (pc' := 45) (v := .int (zn (t a - 48))) (m := 1) (ykc_203 (e := (2, .iload_n kF1, 0)) rfl) rfl rfl ?_
      have hm9 : C * (t a - 48) ≤ 7 * 7 := Nat.mul_le_mul (by omega) (by omega)
      have e1879 : (zn C) * (zn (t a - 48)) = zn (C * (t a - 48)) := zn_of (zmulN (by omega) (by omega) (by omega) (by omega))
      have te1879 := znt (k := C * (t a - 48)) (by omega)
      refine w_alu (pc' := 46) (st' := [.int (zn (C * (t a - 48)))]) (ykc_203 (e := (0, .imul, 0)) rfl) (by rw [← e1879]; rfl) rfl ?_
      refine w_load (pc' := 47) (v := .int (zn (t (a + 1) - 48))) (m := 1) (ykc_203 (e := (2, .iload_n kF2, 0)) rfl) rfl rfl ?_
      have e1880 : (zn (C * (t a - 48))) + (zn (t (a + 1) - 48)) = zn (C * (t a - 48) + (t (a + 1) - 48)) := (zaddN (a := C * (t a - 48)) (b := t (a + 1) - 48) (znt (by omega)) (znt (by omega)) (by omega)) 
      have te1880 := znt (k := C * (t a - 48) + (t (a + 1) - 48)) (by omega)
      refine w_alu (pc' := 48) (st' := [.int (zn (C * (t a - 48) + (t (a + 1) - 48)))]) (ykc_203 (e := (0, .iadd, 0)) rfl) (by rw [← e1880]; rfl) rfl ?_
      refine w_ret (v := (some (.int (zn (C * (t a - 48) + (t (a + 1) - 48)))))) (ykc_203 (e := (7, .ireturn, 0)) rfl) (zr_v rfl) ?_
      rw [hQ]
      exact ⟨zFr_trans fd0 fd1, Or.inl ⟨r1, r2, rfl, hfd1⟩⟩
    · have r2 : zLd b t C (a + 1) = false := decide_eq_false (by omega)
      show zW n D 203 Q 31 [some (.ref 170), some (.int (zn (t a - 48))), none] [.int (Int32.ofInt (-1))] ph1877
      refine w_store (pc' := 32) (L' := [some (.ref 170), some (.int (zn (t a - 48))), some (.int (Int32.ofInt (-1)))]) (st' := []) (m := 1) (ykc_203 (e := (3, .istore_n kF2, 0)) rfl) rfl rfl ?_
      refine w_load (pc' := 33) (v := .int (Int32.ofInt (-1))) (m := 1) (ykc_203 (e := (2, .iload_n kF2, 0)) rfl) rfl rfl ?_
      refine w_zge (ykc_203 (e := (4, .ifCond .ge 7, 40)) rfl) rfl (fun q => by exfalso; omega) (fun b1881 => ?_)
      refine w_alu (pc' := 37) (st' := [.int (Int32.ofInt (-1))]) (ykc_203 (e := (0, .iconst (-1), 0)) rfl) rfl rfl ?_
      refine w_br (pc' := 48) (st' := [.int (Int32.ofInt (-1))]) (ykc_203 (e := (4, .goto 11, 48)) rfl) rfl ?_
      refine w_ret (v := (some (.int (Int32.ofInt (-1))))) (ykc_203 (e := (7, .ireturn, 0)) rfl) (zr_v rfl) ?_
      rw [hQ]
      exact ⟨zFr_trans fd0 fd1, Or.inr (Or.inl ⟨r1, r2, rfl, hfd1⟩)⟩
    
  · have r1 : zLd b t R a = false := decide_eq_false (by omega)
    show zW n D 203 Q 11 [some (.ref 170), none, none] [.int (Int32.ofInt (-1))] ph1873
    refine w_store (pc' := 12) (L' := [some (.ref 170), some (.int (Int32.ofInt (-1))), none]) (st' := []) (m := 1) (ykc_203 (e := (3, .istore_n kF1, 0)) rfl) rfl rfl ?_
    refine w_load (pc' := 13) (v := .int (Int32.ofInt (-1))) (m := 1) (ykc_203 (e := (2, .iload_n kF1, 0)) rfl) rfl rfl ?_
    refine w_zge (ykc_203 (e := (4, .ifCond .ge 7, 20)) rfl) rfl (fun q => by exfalso; omega) (fun b1882 => ?_)
    refine w_alu (pc' := 17) (st' := [.int (Int32.ofInt (-1))]) (ykc_203 (e := (0, .iconst (-1), 0)) rfl) rfl rfl ?_
    refine w_br (pc' := 31) (st' := [.int (Int32.ofInt (-1))]) (ykc_203 (e := (4, .goto 14, 31)) rfl) rfl ?_
    refine w_store (pc' := 32) (L' := [some (.ref 170), some (.int (Int32.ofInt (-1))), some (.int (Int32.ofInt (-1)))]) (st' := []) (m := 1) (ykc_203 (e := (3, .istore_n kF2, 0)) rfl) rfl rfl ?_
    refine w_load (pc' := 33) (v := .int (Int32.ofInt (-1))) (m := 1) (ykc_203 (e := (2, .iload_n kF2, 0)) rfl) rfl rfl ?_
    refine w_zge (ykc_203 (e := (4, .ifCond .ge 7, 40)) rfl) rfl (fun q => by exfalso; omega) (fun b1883 => ?_)
    refine w_alu (pc' := 37) (st' := [.int (Int32.ofInt (-1))]) (ykc_203 (e := (0, .iconst (-1), 0)) rfl) rfl rfl ?_
    refine w_br (pc' := 48) (st' := [.int (Int32.ofInt (-1))]) (ykc_203 (e := (4, .goto 11, 48)) rfl) rfl ?_
    refine w_ret (v := (some (.int (Int32.ofInt (-1))))) (ykc_203 (e := (7, .ireturn, 0)) rfl) (zr_v rfl) ?_
    rw [hQ]
    exact ⟨fd0, Or.inr (Or.inr ⟨r1, rfl, hfd0⟩)⟩
theorem zb0 {R C : Nat} : zLb R C 0 = R := rfl
theorem zb1 {R C : Nat} : zLb R C 1 = C := rfl
theorem zb2 {R C : Nat} : zLb R C 2 = 8 := rfl
theorem zb3 {R C : Nat} : zLb R C 3 = 5 := rfl
theorem zLd_b {n b p bd : Nat} {t : Nat → Nat} (h : p < b ↔ p < n) : zLd b t bd p = zLd n t bd p := by
  unfold zLd
  exact decide_eq_decide.mpr ⟨fun q => ⟨h.mp q.1, q.2⟩, fun q => ⟨h.mpr q.1, q.2⟩⟩
theorem zLk_b {R C wd n b p i : Nat} {rk : Nat → Bool} {t : Nat → Nat} (h : p + i < b ↔ p + i < n) : zLk R C rk wd b t p i = zLk R C rk wd n t p i := by
  unfold zLk
  rw [zLd_b h]
theorem zLg_b {R C wd n b p : Nat} {rk : Nat → Bool} {t : Nat → Nat} : ∀ {k : Nat}, (∀ i, i < k → (p + i < b ↔ p + i < n)) → zLg R C rk wd b t p k = zLg R C rk wd n t p k
  | 0, _ => rfl
  | k + 1, h => by
    show (if zLg R C rk wd b t p k = k ∧ zLk R C rk wd b t p k = true then k + 1 else zLg R C rk wd b t p k) = (if zLg R C rk wd n t p k = k ∧ zLk R C rk wd n t p k = true then k + 1 else zLg R C rk wd n t p k)
    rw [zLg_b (k := k) (fun i hi => h i (by omega)), zLk_b (h k (by omega))]
theorem zLk_t {R C wd n p i : Nat} {rk : Nat → Bool} {t : Nat → Nat} (h : zLd n t (zLb R C i) (p + i) = true) (h2 : ¬ (wd = 4 ∧ i = 1) ∨ rk (zLf C t p) = false) : zLk R C rk wd n t p i = true := zLk_1 (of_decide_eq_true h) h2
theorem zLk_n {R C wd n p i : Nat} {rk : Nat → Bool} {t : Nat → Nat} (h : zLd n t (zLb R C i) (p + i) = false) : zLk R C rk wd n t p i = false := zLk_0 (of_decide_eq_false h)
theorem zLg_4 {R C wd n p : Nat} {rk : Nat → Bool} {t : Nat → Nat} : (zLk R C rk wd n t p 0 = false → zLg R C rk wd n t p 4 = 0) ∧ (zLk R C rk wd n t p 0 = true → zLk R C rk wd n t p 1 = false → zLg R C rk wd n t p 4 = 1) ∧ (zLk R C rk wd n t p 0 = true → zLk R C rk wd n t p 1 = true → zLk R C rk wd n t p 2 = false → zLg R C rk wd n t p 4 = 2) ∧ (zLk R C rk wd n t p 0 = true → zLk R C rk wd n t p 1 = true → zLk R C rk wd n t p 2 = true → zLk R C rk wd n t p 3 = false → zLg R C rk wd n t p 4 = 3) ∧ (zLk R C rk wd n t p 0 = true → zLk R C rk wd n t p 1 = true → zLk R C rk wd n t p 2 = true → zLk R C rk wd n t p 3 = true → zLg R C rk wd n t p 4 = 4) :=
  ⟨fun h => zLg_f (i := 0) rfl h 3, fun h0 h1 => zLg_f (zLg_s rfl h0) h1 2, fun h0 h1 h2 => zLg_f (zLg_s (zLg_s rfl h0) h1) h2 1, fun h0 h1 h2 h3 => zLg_f (zLg_s (zLg_s (zLg_s rfl h0) h1) h2) h3 0, fun h0 h1 h2 h3 => zLg_s (zLg_s (zLg_s (zLg_s rfl h0) h1) h2) h3⟩
theorem zLg_2 {R C wd n p : Nat} {rk : Nat → Bool} {t : Nat → Nat} : (zLk R C rk wd n t p 0 = false → zLg R C rk wd n t p 2 = 0) ∧ (zLk R C rk wd n t p 0 = true → zLk R C rk wd n t p 1 = false → zLg R C rk wd n t p 2 = 1) ∧ (zLk R C rk wd n t p 0 = true → zLk R C rk wd n t p 1 = true → zLg R C rk wd n t p 2 = 2) :=
  ⟨fun h => zLg_f (i := 0) rfl h 1, fun h0 h1 => zLg_f (zLg_s rfl h0) h1 0, fun h0 h1 => zLg_s (zLg_s rfl h0) h1⟩
theorem zm_rperson {ph : pm_H} {R C a b ln : Nat} {rk : Nat → Bool} {t : Nat → Nat} (hS : zSh ph) (hL : zMl ph R C rk) (hT : zTm ph a b ln t) {l N : Nat} (hl : zc ph 170 20 = some (.int (zn l))) (hl8 : l < 8) (hN : zc ph 170 5 = some (.int (zn N))) (hN8 : N + l ≤ 8) : zM 204 [.ref 170] ph (fun v0 q => zFr [178] [(170, 15), (170, 20)] ph q ∧ ((N + l = 8 ∧ v0 = some (.int (zI false)) ∧ zTm q a b ln t) ∨ (N + l < 8 ∧ zLg R C rk 4 b t a 4 = 4 ∧ v0 = some (.int (zI true)) ∧ zTm q (a + 4) b ln t ∧ zc q 170 20 = some (.int (zn (l + 1))) ∧ zc q 178 (3 * l) = some (.int (zn (zLf C t a))) ∧ zc q 178 (3 * l + 1) = some (.int (zn (t (a + 2) - 48))) ∧ zc q 178 (3 * l + 2) = some (.int (zn (t (a + 3) - 48))) ∧ ∀ i, i < 3 * l → zc q 178 i = zc ph 178 i) ∨ (N + l < 8 ∧ zLg R C rk 4 b t a 4 < 4 ∧ v0 = some (.int (zI false)) ∧ zTm q (a + zLg R C rk 4 b t a 4) b ln t))) := by
  obtain ⟨Q, hQ⟩ : ∃ Q : Option Value → pm_H → Prop, Q = (fun v0 q => zFr [178] [(170, 15), (170, 20)] ph q ∧ ((N + l = 8 ∧ v0 = some (.int (zI false)) ∧ zTm q a b ln t) ∨ (N + l < 8 ∧ zLg R C rk 4 b t a 4 = 4 ∧ v0 = some (.int (zI true)) ∧ zTm q (a + 4) b ln t ∧ zc q 170 20 = some (.int (zn (l + 1))) ∧ zc q 178 (3 * l) = some (.int (zn (zLf C t a))) ∧ zc q 178 (3 * l + 1) = some (.int (zn (t (a + 2) - 48))) ∧ zc q 178 (3 * l + 2) = some (.int (zn (t (a + 3) - 48))) ∧ ∀ i, i < 3 * l → zc q 178 i = zc ph 178 i) ∨ (N + l < 8 ∧ zLg R C rk 4 b t a 4 < 4 ∧ v0 = some (.int (zI false)) ∧ zTm q (a + zLg R C rk 4 b t a 4) b ln t))) := ⟨_, rfl⟩
  rw [← hQ]
  refine zM_mk fun n D => ?_
  show zW n D 204 Q 0 [some (.ref 170), none] [] ph
  have c_0 : ((Int8.ofInt 7).toInt32).toInt = 7 := by decide
  have c_1 : ((Int8.ofInt 8).toInt32).toInt = 8 := by decide
  have c_2 : (Int32.ofInt (-1)).toInt = -1 := by decide
  have c_3 : (Int32.ofInt 0).toInt = 0 := by decide
  have c_4 : (Int32.ofInt 1).toInt = 1 := by decide
  have c_5 : (Int32.ofInt 2).toInt = 2 := by decide
  have c_6 : (Int32.ofInt 3).toInt = 3 := by decide
  have c_7 : (Int32.ofInt 4).toInt = 4 := by decide
  have hL0 := hL
  have hab := hT.2.2.1
  have hb80 : b ≤ 80 := Nat.le_trans hT.2.2.2.1 hT.2.2.2.2.1
  obtain ⟨gR, gC, gK, hR3, hR7, hC3, hC7⟩ := hL
  have hRC := zRC49 hR7 hC7
  have tl := znt (k := l) (by omega)
  have tN := znt (k := N) (by omega)
  obtain ⟨k0, k1, k2, k3, k4⟩ := @zLg_4 R C 4 b a rk t
  refine w_load (pc' := 1) (v := .ref 170) (m := 1) (ykc_204 (e := (2, .aload_n kF0, 0)) rfl) rfl rfl ?_
  refine w_gf (pc' := 4) (v := .int (zn N)) (ykc_204 (e := (5, .getfield 130, 0)) rfl) rfl hN rfl ?_
  refine w_load (pc' := 5) (v := .ref 170) (m := 1) (ykc_204 (e := (2, .aload_n kF0, 0)) rfl) rfl rfl ?_
  refine w_gf (pc' := 8) (v := .int (zn l)) (ykc_204 (e := (5, .getfield 197, 0)) rfl) rfl hl rfl ?_
  have e1884 : (zn N) + (zn l) = zn (N + l) := (zaddN (a := N) (b := l) (znt (by omega)) (znt (by omega)) (by omega)) 
  have te1884 := znt (k := N + l) (by omega)
  refine w_alu (pc' := 9) (st' := [.int (zn (N + l))]) (ykc_204 (e := (0, .iadd, 0)) rfl) (by rw [← e1884]; rfl) rfl ?_
  refine w_push (pc' := 11) (v := .int ((Int8.ofInt 8).toInt32)) (m := 2) (ykc_204 (e := (1, .bipush 8, 0)) rfl) rfl rfl ?_
  refine w_ine (ykc_204 (e := (4, .if_icmp .ne 5, 16)) rfl) rfl (fun b1885 => ?_) (fun b1885 => ?_)
  · refine w_alu (pc' := 17) (st' := [.int (Int32.ofInt 3)]) (ykc_204 (e := (0, .iconst 3, 0)) rfl) rfl rfl ?_
    refine w_load (pc' := 18) (v := .ref 170) (m := 1) (ykc_204 (e := (2, .aload_n kF0, 0)) rfl) rfl rfl ?_
    refine w_gf (pc' := 21) (v := .int (zn l)) (ykc_204 (e := (5, .getfield 197, 0)) rfl) rfl hl rfl ?_
    have e1886 : (Int32.ofInt 3) * (zn l) = zn (3 * l) := zn_of (by rw [ti_mul (by rw [show (Int32.ofInt 3).toInt = (3 : Int) by omega, show (zn l).toInt = ((l : Nat) : Int) by omega]; omega) (by rw [show (Int32.ofInt 3).toInt = (3 : Int) by omega, show (zn l).toInt = ((l : Nat) : Int) by omega]; omega), show (Int32.ofInt 3).toInt = (3 : Int) by omega, show (zn l).toInt = ((l : Nat) : Int) by omega] <;> omega)
    have te1886 := znt (k := 3 * l) (by omega)
    refine w_alu (pc' := 22) (st' := [.int (zn (3 * l))]) (ykc_204 (e := (0, .imul, 0)) rfl) (by rw [← e1886]; rfl) rfl ?_
    refine w_store (pc' := 23) (L' := [some (.ref 170), some (.int (zn (3 * l)))]) (st' := []) (m := 1) (ykc_204 (e := (3, .istore_n kF1, 0)) rfl) rfl rfl ?_
    refine w_load (pc' := 24) (v := .ref 170) (m := 1) (ykc_204 (e := (2, .aload_n kF0, 0)) rfl) rfl rfl ?_
    refine w_gf (pc' := 27) (v := .ref 178) (ykc_204 (e := (5, .getfield 53, 0)) rfl) rfl (zsg hS zs_170_19) rfl ?_
    refine w_load (pc' := 28) (v := .int (zn (3 * l))) (m := 1) (ykc_204 (e := (2, .iload_n kF1, 0)) rfl) rfl rfl ?_
    refine w_load (pc' := 29) (v := .ref 170) (m := 1) (ykc_204 (e := (2, .aload_n kF0, 0)) rfl) rfl rfl ?_
    refine w_cv (as := [.ref 170]) (r := [.int (zn (3 * l)), .ref 178]) (ykc_204 (e := (6, .invokevirtual 200, 0)) rfl) rfl rfl rfl rfl (zm_rfield hS hL0 hT) (fun v1887 ph1888 hv => ?_)
    rcases hv with ⟨ff, ⟨r1, r2, rfl, hff⟩ | ⟨r1, r2, rfl, hff⟩ | ⟨r1, rfl, hff⟩⟩
    · have y0 : zLk R C rk 4 b t a 0 = true := zLk_t (i := 0) (by rw [zb0]; exact r1) (Or.inl (by omega))
      have d0 : a < b ∧ 48 ≤ t a ∧ t a < 48 + R := of_decide_eq_true r1
      have d1 : a + 1 < b ∧ 48 ≤ t (a + 1) ∧ t (a + 1) < 48 + C := of_decide_eq_true r2
      have lf := zLf_lt (R := R) (C := C) (t := t) (p := a) (by omega) (by omega) d0.2.2 d1.2.2
      have tf := znt (k := zLf C t a) (by omega)
      have gt2 := hff.2.2.2.2.2
      show zW n D 204 Q 32 [some (.ref 170), some (.int (zn (3 * l)))] [.int (zn (zLf C t a)), .int (zn (3 * l)), .ref 178] ph1888
      refine w_ias (pc' := 33) (k := 3 * l) (ykc_204 (e := (5, .iastore, 0)) rfl) (by omega) rfl (fun ph1890 u1889 => ?_)
      refine w_load (pc' := 34) (v := .ref 170) (m := 1) (ykc_204 (e := (2, .aload_n kF0, 0)) rfl) rfl rfl ?_
      refine w_gf (pc' := 37) (v := .ref 178) (ykc_204 (e := (5, .getfield 53, 0)) rfl) rfl ((u1889.2.1 170 19 (fun q => absurd q.1 (by decide))).trans ((ff.1 170 19 (by decide) (by decide)).trans (zsg hS zs_170_19))) rfl ?_
      refine w_load (pc' := 38) (v := .int (zn (3 * l))) (m := 1) (ykc_204 (e := (2, .iload_n kF1, 0)) rfl) rfl rfl ?_
      refine w_ialk (pc' := 39) (k := 3 * l) (ykc_204 (e := (5, .iaload, 0)) rfl) u1889.1 (by omega) rfl ?_
      refine w_zlt (ykc_204 (e := (4, .ifCond .lt 34, 73)) rfl) rfl (fun q => by exfalso; omega) (fun b1891 => ?_)
      refine w_load (pc' := 43) (v := .ref 170) (m := 1) (ykc_204 (e := (2, .aload_n kF0, 0)) rfl) rfl rfl ?_
      refine w_gf (pc' := 46) (v := .ref 172) (ykc_204 (e := (5, .getfield 33, 0)) rfl) rfl ((u1889.2.1 170 9 (fun q => absurd q.1 (by decide))).trans ((ff.1 170 9 (by decide) (by decide)).trans (zsg hS zs_170_9))) rfl ?_
      refine w_load (pc' := 47) (v := .ref 170) (m := 1) (ykc_204 (e := (2, .aload_n kF0, 0)) rfl) rfl rfl ?_
      refine w_gf (pc' := 50) (v := .ref 178) (ykc_204 (e := (5, .getfield 53, 0)) rfl) rfl ((u1889.2.1 170 19 (fun q => absurd q.1 (by decide))).trans ((ff.1 170 19 (by decide) (by decide)).trans (zsg hS zs_170_19))) rfl ?_
      refine w_load (pc' := 51) (v := .int (zn (3 * l))) (m := 1) (ykc_204 (e := (2, .iload_n kF1, 0)) rfl) rfl rfl ?_
      refine w_ialk (pc' := 52) (k := 3 * l) (ykc_204 (e := (5, .iaload, 0)) rfl) u1889.1 (by omega) rfl ?_
      refine w_balk (pc' := 53) (k := zLf C t a) (ykc_204 (e := (5, .baload, 0)) rfl) ((u1889.2.1 172 (zLf C t a) (fun q => absurd q.1 (by decide))).trans ((ff.1 172 (zLf C t a) (by decide) (by simp)).trans (gK (zLf C t a) lf))) (by omega) rfl ?_
      refine w_beq (ykc_204 (e := (4, .ifCond .eq 20, 73)) rfl) rfl (fun b1892 => ?_) (fun b1892 => ?_)
      · have hrk := b1892
        have y1 : zLk R C rk 4 b t a 1 = true := zLk_t (i := 1) (by rw [zb1]; exact r2) (Or.inr hrk)
        refine w_load (pc' := 74) (v := .ref 170) (m := 1) (ykc_204 (e := (2, .aload_n kF0, 0)) rfl) rfl rfl ?_
        refine w_gf (pc' := 77) (v := .ref 178) (ykc_204 (e := (5, .getfield 53, 0)) rfl) rfl ((u1889.2.1 170 19 (fun q => absurd q.1 (by decide))).trans ((ff.1 170 19 (by decide) (by decide)).trans (zsg hS zs_170_19))) rfl ?_
        refine w_load (pc' := 78) (v := .int (zn (3 * l))) (m := 1) (ykc_204 (e := (2, .iload_n kF1, 0)) rfl) rfl rfl ?_
        refine w_alu (pc' := 79) (st' := [.int (Int32.ofInt 1), .int (zn (3 * l)), .ref 178]) (ykc_204 (e := (0, .iconst 1, 0)) rfl) rfl rfl ?_
        have e1893 : (zn (3 * l)) + (Int32.ofInt 1) = zn (3 * l + 1) := (zaddN (a := 3 * l) (b := 1) (znt (by omega)) c_4 (by omega)) 
        have te1893 := znt (k := 3 * l + 1) (by omega)
        refine w_alu (pc' := 80) (st' := [.int (zn (3 * l + 1)), .ref 178]) (ykc_204 (e := (0, .iadd, 0)) rfl) (by rw [← e1893]; rfl) rfl ?_
        refine w_load (pc' := 81) (v := .ref 170) (m := 1) (ykc_204 (e := (2, .aload_n kF0, 0)) rfl) rfl rfl ?_
        refine w_gf (pc' := 84) (v := .ref 178) (ykc_204 (e := (5, .getfield 53, 0)) rfl) rfl ((u1889.2.1 170 19 (fun q => absurd q.1 (by decide))).trans ((ff.1 170 19 (by decide) (by decide)).trans (zsg hS zs_170_19))) rfl ?_
        refine w_load (pc' := 85) (v := .int (zn (3 * l))) (m := 1) (ykc_204 (e := (2, .iload_n kF1, 0)) rfl) rfl rfl ?_
        refine w_ialk (pc' := 86) (k := 3 * l) (ykc_204 (e := (5, .iaload, 0)) rfl) u1889.1 (by omega) rfl ?_
        refine w_zge (ykc_204 (e := (4, .ifCond .ge 7, 93)) rfl) rfl (fun b1894 => ?_) (fun q => by exfalso; omega)
        refine w_load (pc' := 94) (v := .ref 170) (m := 1) (ykc_204 (e := (2, .aload_n kF0, 0)) rfl) rfl rfl ?_
        refine w_alu (pc' := 95) (st' := [.int (Int32.ofInt 0), .ref 170, .int (zn (3 * l + 1)), .ref 178]) (ykc_204 (e := (0, .iconst 0, 0)) rfl) rfl rfl ?_
        refine w_push (pc' := 97) (v := .int ((Int8.ofInt 7).toInt32)) (m := 2) (ykc_204 (e := (1, .bipush 7, 0)) rfl) rfl rfl ?_
        refine w_cv (as := [.ref 170, .int (Int32.ofInt 0), .int ((Int8.ofInt 7).toInt32)]) (r := [.int (zn (3 * l + 1)), .ref 178]) (ykc_204 (e := (6, .invokevirtual 179, 0)) rfl) rfl rfl rfl rfl (zm_digitIn (zSh_F ((zFr_trans (zFr_mono ff (by simp) (by simp)) (zFr_st u1889 (Or.inl (by simp)))) : zFr [178] [(170, 15), (170, 20)] ph _) (by decide +kernel) hS) (zTm_F (zFr_st u1889 (Or.inl (by simp)) : zFr [178] [(170, 20)] _ _) (by simp) (by simp) (by simp) hff) (l := 0) (h := 7) (by omega) (by omega)) (fun v1895 ph1896 hv => ?_)
        rcases hv with ⟨f2, ⟨c2, rfl, hf2⟩ | ⟨c2, rfl, hf2⟩⟩
        · have c2 : a + 2 < b ∧ 48 ≤ t (a + 2) ∧ t (a + 2) < 48 + 8 := by omega
          have y2 : zLk R C rk 4 b t a 2 = true := zLk_1 (by rw [zb2]; exact c2) (Or.inl (by omega))
          have td2 := znt (k := t (a + 2) - 48) (by omega)
          show zW n D 204 Q 100 [some (.ref 170), some (.int (zn (3 * l)))] [.int (zn (t (a + 2) - 48)), .int (zn (3 * l + 1)), .ref 178] ph1896
          refine w_ias (pc' := 101) (k := 3 * l + 1) (ykc_204 (e := (5, .iastore, 0)) rfl) (by omega) rfl (fun ph1898 u1897 => ?_)
          refine w_load (pc' := 102) (v := .ref 170) (m := 1) (ykc_204 (e := (2, .aload_n kF0, 0)) rfl) rfl rfl ?_
          refine w_gf (pc' := 105) (v := .ref 178) (ykc_204 (e := (5, .getfield 53, 0)) rfl) rfl ((u1897.2.1 170 19 (fun q => absurd q.1 (by decide))).trans ((f2.1 170 19 (by decide) (by decide)).trans ((u1889.2.1 170 19 (fun q => absurd q.1 (by decide))).trans ((ff.1 170 19 (by decide) (by decide)).trans (zsg hS zs_170_19))))) rfl ?_
          refine w_load (pc' := 106) (v := .int (zn (3 * l))) (m := 1) (ykc_204 (e := (2, .iload_n kF1, 0)) rfl) rfl rfl ?_
          refine w_alu (pc' := 107) (st' := [.int (Int32.ofInt 2), .int (zn (3 * l)), .ref 178]) (ykc_204 (e := (0, .iconst 2, 0)) rfl) rfl rfl ?_
          have e1899 : (zn (3 * l)) + (Int32.ofInt 2) = zn (3 * l + 2) := (zaddN (a := 3 * l) (b := 2) (znt (by omega)) c_5 (by omega)) 
          have te1899 := znt (k := 3 * l + 2) (by omega)
          refine w_alu (pc' := 108) (st' := [.int (zn (3 * l + 2)), .ref 178]) (ykc_204 (e := (0, .iadd, 0)) rfl) (by rw [← e1899]; rfl) rfl ?_
          refine w_load (pc' := 109) (v := .ref 170) (m := 1) (ykc_204 (e := (2, .aload_n kF0, 0)) rfl) rfl rfl ?_
          refine w_gf (pc' := 112) (v := .ref 178) (ykc_204 (e := (5, .getfield 53, 0)) rfl) rfl ((u1897.2.1 170 19 (fun q => absurd q.1 (by decide))).trans ((f2.1 170 19 (by decide) (by decide)).trans ((u1889.2.1 170 19 (fun q => absurd q.1 (by decide))).trans ((ff.1 170 19 (by decide) (by decide)).trans (zsg hS zs_170_19))))) rfl ?_
          refine w_load (pc' := 113) (v := .int (zn (3 * l))) (m := 1) (ykc_204 (e := (2, .iload_n kF1, 0)) rfl) rfl rfl ?_
          refine w_alu (pc' := 114) (st' := [.int (Int32.ofInt 1), .int (zn (3 * l)), .ref 178, .int (zn (3 * l + 2)), .ref 178]) (ykc_204 (e := (0, .iconst 1, 0)) rfl) rfl rfl ?_
          have e1900 : (zn (3 * l)) + (Int32.ofInt 1) = zn (3 * l + 1) := (zaddN (a := 3 * l) (b := 1) (znt (by omega)) c_4 (by omega)) 
          have te1900 := znt (k := 3 * l + 1) (by omega)
          refine w_alu (pc' := 115) (st' := [.int (zn (3 * l + 1)), .ref 178, .int (zn (3 * l + 2)), .ref 178]) (ykc_204 (e := (0, .iadd, 0)) rfl) (by rw [← e1900]; rfl) rfl ?_
          refine w_ialk (pc' := 116) (k := 3 * l + 1) (ykc_204 (e := (5, .iaload, 0)) rfl) u1897.1 (by omega) rfl ?_
          refine w_zge (ykc_204 (e := (4, .ifCond .ge 7, 123)) rfl) rfl (fun b1901 => ?_) (fun q => by exfalso; omega)
          refine w_load (pc' := 124) (v := .ref 170) (m := 1) (ykc_204 (e := (2, .aload_n kF0, 0)) rfl) rfl rfl ?_
          refine w_alu (pc' := 125) (st' := [.int (Int32.ofInt 0), .ref 170, .int (zn (3 * l + 2)), .ref 178]) (ykc_204 (e := (0, .iconst 0, 0)) rfl) rfl rfl ?_
          refine w_alu (pc' := 126) (st' := [.int (Int32.ofInt 4), .int (Int32.ofInt 0), .ref 170, .int (zn (3 * l + 2)), .ref 178]) (ykc_204 (e := (0, .iconst 4, 0)) rfl) rfl rfl ?_
          refine w_cv (as := [.ref 170, .int (Int32.ofInt 0), .int (Int32.ofInt 4)]) (r := [.int (zn (3 * l + 2)), .ref 178]) (ykc_204 (e := (6, .invokevirtual 179, 0)) rfl) rfl rfl rfl rfl (zm_digitIn (zSh_F ((zFr_trans (zFr_trans (zFr_trans (zFr_mono ff (by simp) (by simp)) (zFr_st u1889 (Or.inl (by simp)))) (zFr_mono f2 (by simp) (by simp))) (zFr_st u1897 (Or.inl (by simp)))) : zFr [178] [(170, 15), (170, 20)] ph _) (by decide +kernel) hS) (zTm_F (zFr_st u1897 (Or.inl (by simp)) : zFr [178] [(170, 20)] _ _) (by simp) (by simp) (by simp) hf2) (l := 0) (h := 4) (by omega) (by omega)) (fun v1902 ph1903 hv => ?_)
          rcases hv with ⟨f3, ⟨c3, rfl, hf3⟩ | ⟨c3, rfl, hf3⟩⟩
          · rw [show a + 2 + 1 = a + 3 from rfl] at c3
            have c3 : a + 3 < b ∧ 48 ≤ t (a + 3) ∧ t (a + 3) < 48 + 5 := by omega
            have y3 : zLk R C rk 4 b t a 3 = true := zLk_1 (by rw [zb3]; exact c3) (Or.inl (by omega))
            have td3 := znt (k := t (a + 3) - 48) (by omega)
            show zW n D 204 Q 129 [some (.ref 170), some (.int (zn (3 * l)))] [.int (zn (t (a + 3) - 48)), .int (zn (3 * l + 2)), .ref 178] ph1903
            refine w_ias (pc' := 130) (k := 3 * l + 2) (ykc_204 (e := (5, .iastore, 0)) rfl) (by omega) rfl (fun ph1905 u1904 => ?_)
            refine w_load (pc' := 131) (v := .ref 170) (m := 1) (ykc_204 (e := (2, .aload_n kF0, 0)) rfl) rfl rfl ?_
            refine w_alu (pc' := 132) (st' := [.ref 170, .ref 170]) (ykc_204 (e := (0, .dup, 0)) rfl) rfl rfl ?_
            refine w_gf (pc' := 135) (v := .int (zn l)) (ykc_204 (e := (5, .getfield 197, 0)) rfl) rfl ((u1904.2.1 170 20 (fun q => absurd q.1 (by decide))).trans ((f3.1 170 20 (by decide) (by decide)).trans ((u1897.2.1 170 20 (fun q => absurd q.1 (by decide))).trans ((f2.1 170 20 (by decide) (by decide)).trans ((u1889.2.1 170 20 (fun q => absurd q.1 (by decide))).trans ((ff.1 170 20 (by decide) (by decide)).trans hl)))))) rfl ?_
            refine w_alu (pc' := 136) (st' := [.int (Int32.ofInt 1), .int (zn l), .ref 170]) (ykc_204 (e := (0, .iconst 1, 0)) rfl) rfl rfl ?_
            have e1906 : (zn l) + (Int32.ofInt 1) = zn (l + 1) := (zaddN (a := l) (b := 1) (znt (by omega)) c_4 (by omega)) 
            have te1906 := znt (k := l + 1) (by omega)
            refine w_alu (pc' := 137) (st' := [.int (zn (l + 1)), .ref 170]) (ykc_204 (e := (0, .iadd, 0)) rfl) (by rw [← e1906]; rfl) rfl ?_
            refine w_pf (pc' := 140) (ykc_204 (e := (5, .putfield 197, 0)) rfl) rfl rfl (fun ph1908 u1907 => ?_)
            refine w_load (pc' := 141) (v := .ref 170) (m := 1) (ykc_204 (e := (2, .aload_n kF0, 0)) rfl) rfl rfl ?_
            refine w_gf (pc' := 144) (v := .ref 178) (ykc_204 (e := (5, .getfield 53, 0)) rfl) rfl ((u1907.2.1 170 19 (fun q => absurd q.2 (by decide))).trans ((u1904.2.1 170 19 (fun q => absurd q.1 (by decide))).trans ((f3.1 170 19 (by decide) (by decide)).trans ((u1897.2.1 170 19 (fun q => absurd q.1 (by decide))).trans ((f2.1 170 19 (by decide) (by decide)).trans ((u1889.2.1 170 19 (fun q => absurd q.1 (by decide))).trans ((ff.1 170 19 (by decide) (by decide)).trans (zsg hS zs_170_19)))))))) rfl ?_
            refine w_load (pc' := 145) (v := .int (zn (3 * l))) (m := 1) (ykc_204 (e := (2, .iload_n kF1, 0)) rfl) rfl rfl ?_
            refine w_alu (pc' := 146) (st' := [.int (Int32.ofInt 2), .int (zn (3 * l)), .ref 178]) (ykc_204 (e := (0, .iconst 2, 0)) rfl) rfl rfl ?_
            have e1909 : (zn (3 * l)) + (Int32.ofInt 2) = zn (3 * l + 2) := (zaddN (a := 3 * l) (b := 2) (znt (by omega)) c_5 (by omega)) 
            have te1909 := znt (k := 3 * l + 2) (by omega)
            refine w_alu (pc' := 147) (st' := [.int (zn (3 * l + 2)), .ref 178]) (ykc_204 (e := (0, .iadd, 0)) rfl) (by rw [← e1909]; rfl) rfl ?_
            refine w_ialk (pc' := 148) (k := 3 * l + 2) (ykc_204 (e := (5, .iaload, 0)) rfl) ((u1907.2.1 178 (3 * l + 2) (fun q => absurd q.1 (by decide))).trans u1904.1) (by omega) rfl ?_
            refine w_zlt (ykc_204 (e := (4, .ifCond .lt 7, 155)) rfl) rfl (fun q => by exfalso; omega) (fun b1910 => ?_)
            refine w_alu (pc' := 152) (st' := [.int (Int32.ofInt 1)]) (ykc_204 (e := (0, .iconst 1, 0)) rfl) rfl rfl ?_
            refine w_br (pc' := 156) (st' := [.int (Int32.ofInt 1)]) (ykc_204 (e := (4, .goto 4, 156)) rfl) rfl ?_
            refine w_ret (v := (some (.int (Int32.ofInt 1)))) (ykc_204 (e := (7, .ireturn, 0)) rfl) zr_z ?_
            have hg := k4 y0 y1 y2 y3
            have f9 : zFr [178] [(170, 15), (170, 20)] ph ph1908 := (zFr_trans (zFr_trans (zFr_trans (zFr_trans (zFr_trans (zFr_trans (zFr_mono ff (by simp) (by simp)) (zFr_st u1889 (Or.inl (by simp)))) (zFr_mono f2 (by simp) (by simp))) (zFr_st u1897 (Or.inl (by simp)))) (zFr_mono f3 (by simp) (by simp))) (zFr_st u1904 (Or.inl (by simp)))) (zFr_st u1907 (Or.inr (by simp))))
            rw [hQ, zi1]
            exact ⟨f9, Or.inr (Or.inl ⟨by omega, hg, rfl, (zTm_F (zFr_st u1907 (Or.inr (by simp)) : zFr [178] [(170, 20)] _ _) (by simp) (by simp) (by simp) (zTm_F (zFr_st u1904 (Or.inl (by simp)) : zFr [178] [(170, 20)] _ _) (by simp) (by simp) (by simp) hf3)), u1907.1, ((u1907.2.1 178 (3 * l) (fun q => absurd q.1 (by decide))).trans ((u1904.2.1 178 (3 * l) (fun q => by have q2 := q.2; omega)).trans ((f3.1 178 (3 * l) (by decide) (by simp)).trans ((u1897.2.1 178 (3 * l) (fun q => by have q2 := q.2; omega)).trans ((f2.1 178 (3 * l) (by decide) (by simp)).trans u1889.1))))), ((u1907.2.1 178 (3 * l + 1) (fun q => absurd q.1 (by decide))).trans ((u1904.2.1 178 (3 * l + 1) (fun q => by have q2 := q.2; omega)).trans ((f3.1 178 (3 * l + 1) (by decide) (by simp)).trans u1897.1))), ((u1907.2.1 178 (3 * l + 2) (fun q => absurd q.1 (by decide))).trans u1904.1), fun i hi => ((u1907.2.1 178 i (fun q => absurd q.1 (by decide))).trans ((u1904.2.1 178 i (fun q => by have q2 := q.2; omega)).trans ((f3.1 178 i (by decide) (by simp)).trans ((u1897.2.1 178 i (fun q => by have q2 := q.2; omega)).trans ((f2.1 178 i (by decide) (by simp)).trans ((u1889.2.1 178 i (fun q => by have q2 := q.2; omega)).trans (ff.1 178 i (by decide) (by simp))))))))⟩)⟩
          · rw [show a + 2 + 1 = a + 3 from rfl] at c3
            have n3 : zLk R C rk 4 b t a 3 = false := zLk_0 (by rw [zb3]; omega)
            show zW n D 204 Q 129 [some (.ref 170), some (.int (zn (3 * l)))] [.int (Int32.ofInt (-1)), .int (zn (3 * l + 2)), .ref 178] ph1903
            refine w_ias (pc' := 130) (k := 3 * l + 2) (ykc_204 (e := (5, .iastore, 0)) rfl) (by omega) rfl (fun ph1912 u1911 => ?_)
            refine w_load (pc' := 131) (v := .ref 170) (m := 1) (ykc_204 (e := (2, .aload_n kF0, 0)) rfl) rfl rfl ?_
            refine w_alu (pc' := 132) (st' := [.ref 170, .ref 170]) (ykc_204 (e := (0, .dup, 0)) rfl) rfl rfl ?_
            refine w_gf (pc' := 135) (v := .int (zn l)) (ykc_204 (e := (5, .getfield 197, 0)) rfl) rfl ((u1911.2.1 170 20 (fun q => absurd q.1 (by decide))).trans ((f3.1 170 20 (by decide) (by decide)).trans ((u1897.2.1 170 20 (fun q => absurd q.1 (by decide))).trans ((f2.1 170 20 (by decide) (by decide)).trans ((u1889.2.1 170 20 (fun q => absurd q.1 (by decide))).trans ((ff.1 170 20 (by decide) (by decide)).trans hl)))))) rfl ?_
            refine w_alu (pc' := 136) (st' := [.int (Int32.ofInt 1), .int (zn l), .ref 170]) (ykc_204 (e := (0, .iconst 1, 0)) rfl) rfl rfl ?_
            have e1913 : (zn l) + (Int32.ofInt 1) = zn (l + 1) := (zaddN (a := l) (b := 1) (znt (by omega)) c_4 (by omega)) 
            have te1913 := znt (k := l + 1) (by omega)
            refine w_alu (pc' := 137) (st' := [.int (zn (l + 1)), .ref 170]) (ykc_204 (e := (0, .iadd, 0)) rfl) (by rw [← e1913]; rfl) rfl ?_
            refine w_pf (pc' := 140) (ykc_204 (e := (5, .putfield 197, 0)) rfl) rfl rfl (fun ph1915 u1914 => ?_)
            refine w_load (pc' := 141) (v := .ref 170) (m := 1) (ykc_204 (e := (2, .aload_n kF0, 0)) rfl) rfl rfl ?_
            refine w_gf (pc' := 144) (v := .ref 178) (ykc_204 (e := (5, .getfield 53, 0)) rfl) rfl ((u1914.2.1 170 19 (fun q => absurd q.2 (by decide))).trans ((u1911.2.1 170 19 (fun q => absurd q.1 (by decide))).trans ((f3.1 170 19 (by decide) (by decide)).trans ((u1897.2.1 170 19 (fun q => absurd q.1 (by decide))).trans ((f2.1 170 19 (by decide) (by decide)).trans ((u1889.2.1 170 19 (fun q => absurd q.1 (by decide))).trans ((ff.1 170 19 (by decide) (by decide)).trans (zsg hS zs_170_19)))))))) rfl ?_
            refine w_load (pc' := 145) (v := .int (zn (3 * l))) (m := 1) (ykc_204 (e := (2, .iload_n kF1, 0)) rfl) rfl rfl ?_
            refine w_alu (pc' := 146) (st' := [.int (Int32.ofInt 2), .int (zn (3 * l)), .ref 178]) (ykc_204 (e := (0, .iconst 2, 0)) rfl) rfl rfl ?_
            have e1916 : (zn (3 * l)) + (Int32.ofInt 2) = zn (3 * l + 2) := (zaddN (a := 3 * l) (b := 2) (znt (by omega)) c_5 (by omega)) 
            have te1916 := znt (k := 3 * l + 2) (by omega)
            refine w_alu (pc' := 147) (st' := [.int (zn (3 * l + 2)), .ref 178]) (ykc_204 (e := (0, .iadd, 0)) rfl) (by rw [← e1916]; rfl) rfl ?_
            refine w_ialk (pc' := 148) (k := 3 * l + 2) (ykc_204 (e := (5, .iaload, 0)) rfl) ((u1914.2.1 178 (3 * l + 2) (fun q => absurd q.1 (by decide))).trans u1911.1) (by omega) rfl ?_
            refine w_zlt (ykc_204 (e := (4, .ifCond .lt 7, 155)) rfl) rfl (fun b1917 => ?_) (fun q => by exfalso; omega)
            refine w_alu (pc' := 156) (st' := [.int (Int32.ofInt 0)]) (ykc_204 (e := (0, .iconst 0, 0)) rfl) rfl rfl ?_
            refine w_ret (v := (some (.int (Int32.ofInt 0)))) (ykc_204 (e := (7, .ireturn, 0)) rfl) zr_z ?_
            have hg := k3 y0 y1 y2 n3
            have f9 : zFr [178] [(170, 15), (170, 20)] ph ph1915 := (zFr_trans (zFr_trans (zFr_trans (zFr_trans (zFr_trans (zFr_trans (zFr_mono ff (by simp) (by simp)) (zFr_st u1889 (Or.inl (by simp)))) (zFr_mono f2 (by simp) (by simp))) (zFr_st u1897 (Or.inl (by simp)))) (zFr_mono f3 (by simp) (by simp))) (zFr_st u1911 (Or.inl (by simp)))) (zFr_st u1914 (Or.inr (by simp))))
            rw [hQ, zi0]
            exact ⟨f9, Or.inr (Or.inr ⟨by omega, by omega, rfl, by rw [hg]; exact (zTm_F (zFr_st u1914 (Or.inr (by simp)) : zFr [178] [(170, 20)] _ _) (by simp) (by simp) (by simp) (zTm_F (zFr_st u1911 (Or.inl (by simp)) : zFr [178] [(170, 20)] _ _) (by simp) (by simp) (by simp) hf3))⟩)⟩
          
        · have n2 : zLk R C rk 4 b t a 2 = false := zLk_0 (by rw [zb2]; omega)
          show zW n D 204 Q 100 [some (.ref 170), some (.int (zn (3 * l)))] [.int (Int32.ofInt (-1)), .int (zn (3 * l + 1)), .ref 178] ph1896
          refine w_ias (pc' := 101) (k := 3 * l + 1) (ykc_204 (e := (5, .iastore, 0)) rfl) (by omega) rfl (fun ph1919 u1918 => ?_)
          refine w_load (pc' := 102) (v := .ref 170) (m := 1) (ykc_204 (e := (2, .aload_n kF0, 0)) rfl) rfl rfl ?_
          refine w_gf (pc' := 105) (v := .ref 178) (ykc_204 (e := (5, .getfield 53, 0)) rfl) rfl ((u1918.2.1 170 19 (fun q => absurd q.1 (by decide))).trans ((f2.1 170 19 (by decide) (by decide)).trans ((u1889.2.1 170 19 (fun q => absurd q.1 (by decide))).trans ((ff.1 170 19 (by decide) (by decide)).trans (zsg hS zs_170_19))))) rfl ?_
          refine w_load (pc' := 106) (v := .int (zn (3 * l))) (m := 1) (ykc_204 (e := (2, .iload_n kF1, 0)) rfl) rfl rfl ?_
          refine w_alu (pc' := 107) (st' := [.int (Int32.ofInt 2), .int (zn (3 * l)), .ref 178]) (ykc_204 (e := (0, .iconst 2, 0)) rfl) rfl rfl ?_
          have e1920 : (zn (3 * l)) + (Int32.ofInt 2) = zn (3 * l + 2) := (zaddN (a := 3 * l) (b := 2) (znt (by omega)) c_5 (by omega)) 
          have te1920 := znt (k := 3 * l + 2) (by omega)
          refine w_alu (pc' := 108) (st' := [.int (zn (3 * l + 2)), .ref 178]) (ykc_204 (e := (0, .iadd, 0)) rfl) (by rw [← e1920]; rfl) rfl ?_
          refine w_load (pc' := 109) (v := .ref 170) (m := 1) (ykc_204 (e := (2, .aload_n kF0, 0)) rfl) rfl rfl ?_
          refine w_gf (pc' := 112) (v := .ref 178) (ykc_204 (e := (5, .getfield 53, 0)) rfl) rfl ((u1918.2.1 170 19 (fun q => absurd q.1 (by decide))).trans ((f2.1 170 19 (by decide) (by decide)).trans ((u1889.2.1 170 19 (fun q => absurd q.1 (by decide))).trans ((ff.1 170 19 (by decide) (by decide)).trans (zsg hS zs_170_19))))) rfl ?_
          refine w_load (pc' := 113) (v := .int (zn (3 * l))) (m := 1) (ykc_204 (e := (2, .iload_n kF1, 0)) rfl) rfl rfl ?_
          refine w_alu (pc' := 114) (st' := [.int (Int32.ofInt 1), .int (zn (3 * l)), .ref 178, .int (zn (3 * l + 2)), .ref 178]) (ykc_204 (e := (0, .iconst 1, 0)) rfl) rfl rfl ?_
          have e1921 : (zn (3 * l)) + (Int32.ofInt 1) = zn (3 * l + 1) := (zaddN (a := 3 * l) (b := 1) (znt (by omega)) c_4 (by omega)) 
          have te1921 := znt (k := 3 * l + 1) (by omega)
          refine w_alu (pc' := 115) (st' := [.int (zn (3 * l + 1)), .ref 178, .int (zn (3 * l + 2)), .ref 178]) (ykc_204 (e := (0, .iadd, 0)) rfl) (by rw [← e1921]; rfl) rfl ?_
          refine w_ialk (pc' := 116) (k := 3 * l + 1) (ykc_204 (e := (5, .iaload, 0)) rfl) u1918.1 (by omega) rfl ?_
          refine w_zge (ykc_204 (e := (4, .ifCond .ge 7, 123)) rfl) rfl (fun q => by exfalso; omega) (fun b1922 => ?_)
          refine w_alu (pc' := 120) (st' := [.int (Int32.ofInt (-1)), .int (zn (3 * l + 2)), .ref 178]) (ykc_204 (e := (0, .iconst (-1), 0)) rfl) rfl rfl ?_
          refine w_br (pc' := 129) (st' := [.int (Int32.ofInt (-1)), .int (zn (3 * l + 2)), .ref 178]) (ykc_204 (e := (4, .goto 9, 129)) rfl) rfl ?_
          refine w_ias (pc' := 130) (k := 3 * l + 2) (ykc_204 (e := (5, .iastore, 0)) rfl) (by omega) rfl (fun ph1924 u1923 => ?_)
          refine w_load (pc' := 131) (v := .ref 170) (m := 1) (ykc_204 (e := (2, .aload_n kF0, 0)) rfl) rfl rfl ?_
          refine w_alu (pc' := 132) (st' := [.ref 170, .ref 170]) (ykc_204 (e := (0, .dup, 0)) rfl) rfl rfl ?_
          refine w_gf (pc' := 135) (v := .int (zn l)) (ykc_204 (e := (5, .getfield 197, 0)) rfl) rfl ((u1923.2.1 170 20 (fun q => absurd q.1 (by decide))).trans ((u1918.2.1 170 20 (fun q => absurd q.1 (by decide))).trans ((f2.1 170 20 (by decide) (by decide)).trans ((u1889.2.1 170 20 (fun q => absurd q.1 (by decide))).trans ((ff.1 170 20 (by decide) (by decide)).trans hl))))) rfl ?_
          refine w_alu (pc' := 136) (st' := [.int (Int32.ofInt 1), .int (zn l), .ref 170]) (ykc_204 (e := (0, .iconst 1, 0)) rfl) rfl rfl ?_
          have e1925 : (zn l) + (Int32.ofInt 1) = zn (l + 1) := (zaddN (a := l) (b := 1) (znt (by omega)) c_4 (by omega)) 
          have te1925 := znt (k := l + 1) (by omega)
          refine w_alu (pc' := 137) (st' := [.int (zn (l + 1)), .ref 170]) (ykc_204 (e := (0, .iadd, 0)) rfl) (by rw [← e1925]; rfl) rfl ?_
          refine w_pf (pc' := 140) (ykc_204 (e := (5, .putfield 197, 0)) rfl) rfl rfl (fun ph1927 u1926 => ?_)
          refine w_load (pc' := 141) (v := .ref 170) (m := 1) (ykc_204 (e := (2, .aload_n kF0, 0)) rfl) rfl rfl ?_
          refine w_gf (pc' := 144) (v := .ref 178) (ykc_204 (e := (5, .getfield 53, 0)) rfl) rfl ((u1926.2.1 170 19 (fun q => absurd q.2 (by decide))).trans ((u1923.2.1 170 19 (fun q => absurd q.1 (by decide))).trans ((u1918.2.1 170 19 (fun q => absurd q.1 (by decide))).trans ((f2.1 170 19 (by decide) (by decide)).trans ((u1889.2.1 170 19 (fun q => absurd q.1 (by decide))).trans ((ff.1 170 19 (by decide) (by decide)).trans (zsg hS zs_170_19))))))) rfl ?_
          refine w_load (pc' := 145) (v := .int (zn (3 * l))) (m := 1) (ykc_204 (e := (2, .iload_n kF1, 0)) rfl) rfl rfl ?_
          refine w_alu (pc' := 146) (st' := [.int (Int32.ofInt 2), .int (zn (3 * l)), .ref 178]) (ykc_204 (e := (0, .iconst 2, 0)) rfl) rfl rfl ?_
          have e1928 : (zn (3 * l)) + (Int32.ofInt 2) = zn (3 * l + 2) := (zaddN (a := 3 * l) (b := 2) (znt (by omega)) c_5 (by omega)) 
          have te1928 := znt (k := 3 * l + 2) (by omega)
          refine w_alu (pc' := 147) (st' := [.int (zn (3 * l + 2)), .ref 178]) (ykc_204 (e := (0, .iadd, 0)) rfl) (by rw [← e1928]; rfl) rfl ?_
          refine w_ialk (pc' := 148) (k := 3 * l + 2) (ykc_204 (e := (5, .iaload, 0)) rfl) ((u1926.2.1 178 (3 * l + 2) (fun q => absurd q.1 (by decide))).trans u1923.1) (by omega) rfl ?_
          refine w_zlt (ykc_204 (e := (4, .ifCond .lt 7, 155)) rfl) rfl (fun b1929 => ?_) (fun q => by exfalso; omega)
          refine w_alu (pc' := 156) (st' := [.int (Int32.ofInt 0)]) (ykc_204 (e := (0, .iconst 0, 0)) rfl) rfl rfl ?_
          refine w_ret (v := (some (.int (Int32.ofInt 0)))) (ykc_204 (e := (7, .ireturn, 0)) rfl) zr_z ?_
          have hg := k2 y0 y1 n2
          have f9 : zFr [178] [(170, 15), (170, 20)] ph ph1927 := (zFr_trans (zFr_trans (zFr_trans (zFr_trans (zFr_trans (zFr_mono ff (by simp) (by simp)) (zFr_st u1889 (Or.inl (by simp)))) (zFr_mono f2 (by simp) (by simp))) (zFr_st u1918 (Or.inl (by simp)))) (zFr_st u1923 (Or.inl (by simp)))) (zFr_st u1926 (Or.inr (by simp))))
          rw [hQ, zi0]
          exact ⟨f9, Or.inr (Or.inr ⟨by omega, by omega, rfl, by rw [hg]; exact (zTm_F (zFr_st u1926 (Or.inr (by simp)) : zFr [178] [(170, 20)] _ _) (by simp) (by simp) (by simp) (zTm_F (zFr_st u1923 (Or.inl (by simp)) : zFr [178] [(170, 20)] _ _) (by simp) (by simp) (by simp) (zTm_F (zFr_st u1918 (Or.inl (by simp)) : zFr [178] [(170, 20)] _ _) (by simp) (by simp) (by simp) hf2)))⟩)⟩
        
      · have hrk := b1892
        have n1 : zLk R C rk 4 b t a 1 = false := zLk_r ⟨rfl, rfl⟩ hrk
        refine w_load (pc' := 57) (v := .ref 170) (m := 1) (ykc_204 (e := (2, .aload_n kF0, 0)) rfl) rfl rfl ?_
        refine w_alu (pc' := 58) (st' := [.ref 170, .ref 170]) (ykc_204 (e := (0, .dup, 0)) rfl) rfl rfl ?_
        refine w_gf (pc' := 61) (v := .int (zn (a + 2))) (ykc_204 (e := (5, .getfield 139, 0)) rfl) rfl ((u1889.2.1 170 15 (fun q => absurd q.1 (by decide))).trans hff.1) rfl ?_
        refine w_alu (pc' := 62) (st' := [.int (Int32.ofInt 1), .int (zn (a + 2)), .ref 170]) (ykc_204 (e := (0, .iconst 1, 0)) rfl) rfl rfl ?_
        have e1930 : (zn (a + 2)) - (Int32.ofInt 1) = zn (a + 1) := zsubN (a := a + 2) (b := 1) (znt (by omega)) c_4 (by omega)
        have te1930 := znt (k := a + 1) (by omega)
        refine w_alu (pc' := 63) (st' := [.int (zn (a + 1)), .ref 170]) (ykc_204 (e := (0, .isub, 0)) rfl) (by show some ([.int ((zn (a + 2)) - (Int32.ofInt 1)), .ref 170] : List Value) = _; rw [e1930]) rfl ?_
        refine w_pf (pc' := 66) (ykc_204 (e := (5, .putfield 139, 0)) rfl) rfl rfl (fun ph1932 u1931 => ?_)
        refine w_load (pc' := 67) (v := .ref 170) (m := 1) (ykc_204 (e := (2, .aload_n kF0, 0)) rfl) rfl rfl ?_
        refine w_gf (pc' := 70) (v := .ref 178) (ykc_204 (e := (5, .getfield 53, 0)) rfl) rfl ((u1931.2.1 170 19 (fun q => absurd q.2 (by decide))).trans ((u1889.2.1 170 19 (fun q => absurd q.1 (by decide))).trans ((ff.1 170 19 (by decide) (by decide)).trans (zsg hS zs_170_19)))) rfl ?_
        refine w_load (pc' := 71) (v := .int (zn (3 * l))) (m := 1) (ykc_204 (e := (2, .iload_n kF1, 0)) rfl) rfl rfl ?_
        refine w_alu (pc' := 72) (st' := [.int (Int32.ofInt (-1)), .int (zn (3 * l)), .ref 178]) (ykc_204 (e := (0, .iconst (-1), 0)) rfl) rfl rfl ?_
        refine w_ias (pc' := 73) (k := 3 * l) (ykc_204 (e := (5, .iastore, 0)) rfl) (by omega) rfl (fun ph1934 u1933 => ?_)
        have hT1 := zTm_u u1931 (a' := a + 1) (by omega) (zTm_F (zFr_st u1889 (Or.inl (by simp)) : zFr [178] [(170, 20)] _ _) (by simp) (by simp) (by simp) hff)
        refine w_load (pc' := 74) (v := .ref 170) (m := 1) (ykc_204 (e := (2, .aload_n kF0, 0)) rfl) rfl rfl ?_
        refine w_gf (pc' := 77) (v := .ref 178) (ykc_204 (e := (5, .getfield 53, 0)) rfl) rfl ((u1933.2.1 170 19 (fun q => absurd q.1 (by decide))).trans ((u1931.2.1 170 19 (fun q => absurd q.2 (by decide))).trans ((u1889.2.1 170 19 (fun q => absurd q.1 (by decide))).trans ((ff.1 170 19 (by decide) (by decide)).trans (zsg hS zs_170_19))))) rfl ?_
        refine w_load (pc' := 78) (v := .int (zn (3 * l))) (m := 1) (ykc_204 (e := (2, .iload_n kF1, 0)) rfl) rfl rfl ?_
        refine w_alu (pc' := 79) (st' := [.int (Int32.ofInt 1), .int (zn (3 * l)), .ref 178]) (ykc_204 (e := (0, .iconst 1, 0)) rfl) rfl rfl ?_
        have e1935 : (zn (3 * l)) + (Int32.ofInt 1) = zn (3 * l + 1) := (zaddN (a := 3 * l) (b := 1) (znt (by omega)) c_4 (by omega)) 
        have te1935 := znt (k := 3 * l + 1) (by omega)
        refine w_alu (pc' := 80) (st' := [.int (zn (3 * l + 1)), .ref 178]) (ykc_204 (e := (0, .iadd, 0)) rfl) (by rw [← e1935]; rfl) rfl ?_
        refine w_load (pc' := 81) (v := .ref 170) (m := 1) (ykc_204 (e := (2, .aload_n kF0, 0)) rfl) rfl rfl ?_
        refine w_gf (pc' := 84) (v := .ref 178) (ykc_204 (e := (5, .getfield 53, 0)) rfl) rfl ((u1933.2.1 170 19 (fun q => absurd q.1 (by decide))).trans ((u1931.2.1 170 19 (fun q => absurd q.2 (by decide))).trans ((u1889.2.1 170 19 (fun q => absurd q.1 (by decide))).trans ((ff.1 170 19 (by decide) (by decide)).trans (zsg hS zs_170_19))))) rfl ?_
        refine w_load (pc' := 85) (v := .int (zn (3 * l))) (m := 1) (ykc_204 (e := (2, .iload_n kF1, 0)) rfl) rfl rfl ?_
        refine w_ialk (pc' := 86) (k := 3 * l) (ykc_204 (e := (5, .iaload, 0)) rfl) u1933.1 (by omega) rfl ?_
        refine w_zge (ykc_204 (e := (4, .ifCond .ge 7, 93)) rfl) rfl (fun q => by exfalso; omega) (fun b1936 => ?_)
        refine w_alu (pc' := 90) (st' := [.int (Int32.ofInt (-1)), .int (zn (3 * l + 1)), .ref 178]) (ykc_204 (e := (0, .iconst (-1), 0)) rfl) rfl rfl ?_
        refine w_br (pc' := 100) (st' := [.int (Int32.ofInt (-1)), .int (zn (3 * l + 1)), .ref 178]) (ykc_204 (e := (4, .goto 10, 100)) rfl) rfl ?_
        refine w_ias (pc' := 101) (k := 3 * l + 1) (ykc_204 (e := (5, .iastore, 0)) rfl) (by omega) rfl (fun ph1938 u1937 => ?_)
        refine w_load (pc' := 102) (v := .ref 170) (m := 1) (ykc_204 (e := (2, .aload_n kF0, 0)) rfl) rfl rfl ?_
        refine w_gf (pc' := 105) (v := .ref 178) (ykc_204 (e := (5, .getfield 53, 0)) rfl) rfl ((u1937.2.1 170 19 (fun q => absurd q.1 (by decide))).trans ((u1933.2.1 170 19 (fun q => absurd q.1 (by decide))).trans ((u1931.2.1 170 19 (fun q => absurd q.2 (by decide))).trans ((u1889.2.1 170 19 (fun q => absurd q.1 (by decide))).trans ((ff.1 170 19 (by decide) (by decide)).trans (zsg hS zs_170_19)))))) rfl ?_
        refine w_load (pc' := 106) (v := .int (zn (3 * l))) (m := 1) (ykc_204 (e := (2, .iload_n kF1, 0)) rfl) rfl rfl ?_
        refine w_alu (pc' := 107) (st' := [.int (Int32.ofInt 2), .int (zn (3 * l)), .ref 178]) (ykc_204 (e := (0, .iconst 2, 0)) rfl) rfl rfl ?_
        have e1939 : (zn (3 * l)) + (Int32.ofInt 2) = zn (3 * l + 2) := (zaddN (a := 3 * l) (b := 2) (znt (by omega)) c_5 (by omega)) 
        have te1939 := znt (k := 3 * l + 2) (by omega)
        refine w_alu (pc' := 108) (st' := [.int (zn (3 * l + 2)), .ref 178]) (ykc_204 (e := (0, .iadd, 0)) rfl) (by rw [← e1939]; rfl) rfl ?_
        refine w_load (pc' := 109) (v := .ref 170) (m := 1) (ykc_204 (e := (2, .aload_n kF0, 0)) rfl) rfl rfl ?_
        refine w_gf (pc' := 112) (v := .ref 178) (ykc_204 (e := (5, .getfield 53, 0)) rfl) rfl ((u1937.2.1 170 19 (fun q => absurd q.1 (by decide))).trans ((u1933.2.1 170 19 (fun q => absurd q.1 (by decide))).trans ((u1931.2.1 170 19 (fun q => absurd q.2 (by decide))).trans ((u1889.2.1 170 19 (fun q => absurd q.1 (by decide))).trans ((ff.1 170 19 (by decide) (by decide)).trans (zsg hS zs_170_19)))))) rfl ?_
        refine w_load (pc' := 113) (v := .int (zn (3 * l))) (m := 1) (ykc_204 (e := (2, .iload_n kF1, 0)) rfl) rfl rfl ?_
        refine w_alu (pc' := 114) (st' := [.int (Int32.ofInt 1), .int (zn (3 * l)), .ref 178, .int (zn (3 * l + 2)), .ref 178]) (ykc_204 (e := (0, .iconst 1, 0)) rfl) rfl rfl ?_
        have e1940 : (zn (3 * l)) + (Int32.ofInt 1) = zn (3 * l + 1) := (zaddN (a := 3 * l) (b := 1) (znt (by omega)) c_4 (by omega)) 
        have te1940 := znt (k := 3 * l + 1) (by omega)
        refine w_alu (pc' := 115) (st' := [.int (zn (3 * l + 1)), .ref 178, .int (zn (3 * l + 2)), .ref 178]) (ykc_204 (e := (0, .iadd, 0)) rfl) (by rw [← e1940]; rfl) rfl ?_
        refine w_ialk (pc' := 116) (k := 3 * l + 1) (ykc_204 (e := (5, .iaload, 0)) rfl) u1937.1 (by omega) rfl ?_
        refine w_zge (ykc_204 (e := (4, .ifCond .ge 7, 123)) rfl) rfl (fun q => by exfalso; omega) (fun b1941 => ?_)
        refine w_alu (pc' := 120) (st' := [.int (Int32.ofInt (-1)), .int (zn (3 * l + 2)), .ref 178]) (ykc_204 (e := (0, .iconst (-1), 0)) rfl) rfl rfl ?_
        refine w_br (pc' := 129) (st' := [.int (Int32.ofInt (-1)), .int (zn (3 * l + 2)), .ref 178]) (ykc_204 (e := (4, .goto 9, 129)) rfl) rfl ?_
        refine w_ias (pc' := 130) (k := 3 * l + 2) (ykc_204 (e := (5, .iastore, 0)) rfl) (by omega) rfl (fun ph1943 u1942 => ?_)
        refine w_load (pc' := 131) (v := .ref 170) (m := 1) (ykc_204 (e := (2, .aload_n kF0, 0)) rfl) rfl rfl ?_
        refine w_alu (pc' := 132) (st' := [.ref 170, .ref 170]) (ykc_204 (e := (0, .dup, 0)) rfl) rfl rfl ?_
        refine w_gf (pc' := 135) (v := .int (zn l)) (ykc_204 (e := (5, .getfield 197, 0)) rfl) rfl ((u1942.2.1 170 20 (fun q => absurd q.1 (by decide))).trans ((u1937.2.1 170 20 (fun q => absurd q.1 (by decide))).trans ((u1933.2.1 170 20 (fun q => absurd q.1 (by decide))).trans ((u1931.2.1 170 20 (fun q => absurd q.2 (by decide))).trans ((u1889.2.1 170 20 (fun q => absurd q.1 (by decide))).trans ((ff.1 170 20 (by decide) (by decide)).trans hl)))))) rfl ?_
        refine w_alu (pc' := 136) (st' := [.int (Int32.ofInt 1), .int (zn l), .ref 170]) (ykc_204 (e := (0, .iconst 1, 0)) rfl) rfl rfl ?_
        have e1944 : (zn l) + (Int32.ofInt 1) = zn (l + 1) := (zaddN (a := l) (b := 1) (znt (by omega)) c_4 (by omega)) 
        have te1944 := znt (k := l + 1) (by omega)
        refine w_alu (pc' := 137) (st' := [.int (zn (l + 1)), .ref 170]) (ykc_204 (e := (0, .iadd, 0)) rfl) (by rw [← e1944]; rfl) rfl ?_
        refine w_pf (pc' := 140) (ykc_204 (e := (5, .putfield 197, 0)) rfl) rfl rfl (fun ph1946 u1945 => ?_)
        refine w_load (pc' := 141) (v := .ref 170) (m := 1) (ykc_204 (e := (2, .aload_n kF0, 0)) rfl) rfl rfl ?_
        refine w_gf (pc' := 144) (v := .ref 178) (ykc_204 (e := (5, .getfield 53, 0)) rfl) rfl ((u1945.2.1 170 19 (fun q => absurd q.2 (by decide))).trans ((u1942.2.1 170 19 (fun q => absurd q.1 (by decide))).trans ((u1937.2.1 170 19 (fun q => absurd q.1 (by decide))).trans ((u1933.2.1 170 19 (fun q => absurd q.1 (by decide))).trans ((u1931.2.1 170 19 (fun q => absurd q.2 (by decide))).trans ((u1889.2.1 170 19 (fun q => absurd q.1 (by decide))).trans ((ff.1 170 19 (by decide) (by decide)).trans (zsg hS zs_170_19)))))))) rfl ?_
        refine w_load (pc' := 145) (v := .int (zn (3 * l))) (m := 1) (ykc_204 (e := (2, .iload_n kF1, 0)) rfl) rfl rfl ?_
        refine w_alu (pc' := 146) (st' := [.int (Int32.ofInt 2), .int (zn (3 * l)), .ref 178]) (ykc_204 (e := (0, .iconst 2, 0)) rfl) rfl rfl ?_
        have e1947 : (zn (3 * l)) + (Int32.ofInt 2) = zn (3 * l + 2) := (zaddN (a := 3 * l) (b := 2) (znt (by omega)) c_5 (by omega)) 
        have te1947 := znt (k := 3 * l + 2) (by omega)
        refine w_alu (pc' := 147) (st' := [.int (zn (3 * l + 2)), .ref 178]) (ykc_204 (e := (0, .iadd, 0)) rfl) (by rw [← e1947]; rfl) rfl ?_
        refine w_ialk (pc' := 148) (k := 3 * l + 2) (ykc_204 (e := (5, .iaload, 0)) rfl) ((u1945.2.1 178 (3 * l + 2) (fun q => absurd q.1 (by decide))).trans u1942.1) (by omega) rfl ?_
        refine w_zlt (ykc_204 (e := (4, .ifCond .lt 7, 155)) rfl) rfl (fun b1948 => ?_) (fun q => by exfalso; omega)
        refine w_alu (pc' := 156) (st' := [.int (Int32.ofInt 0)]) (ykc_204 (e := (0, .iconst 0, 0)) rfl) rfl rfl ?_
        refine w_ret (v := (some (.int (Int32.ofInt 0)))) (ykc_204 (e := (7, .ireturn, 0)) rfl) zr_z ?_
        have hg := k1 y0 n1
        have f9 : zFr [178] [(170, 15), (170, 20)] ph ph1946 := (zFr_trans (zFr_trans (zFr_trans (zFr_trans (zFr_trans (zFr_trans (zFr_mono ff (by simp) (by simp)) (zFr_st u1889 (Or.inl (by simp)))) (zFr_st u1931 (Or.inr (by simp)))) (zFr_st u1933 (Or.inl (by simp)))) (zFr_st u1937 (Or.inl (by simp)))) (zFr_st u1942 (Or.inl (by simp)))) (zFr_st u1945 (Or.inr (by simp))))
        rw [hQ, zi0]
        exact ⟨f9, Or.inr (Or.inr ⟨by omega, by omega, rfl, by rw [hg]; exact (zTm_F (zFr_st u1945 (Or.inr (by simp)) : zFr [178] [(170, 20)] _ _) (by simp) (by simp) (by simp) (zTm_F (zFr_st u1942 (Or.inl (by simp)) : zFr [178] [(170, 20)] _ _) (by simp) (by simp) (by simp) (zTm_F (zFr_st u1937 (Or.inl (by simp)) : zFr [178] [(170, 20)] _ _) (by simp) (by simp) (by simp) (zTm_F (zFr_st u1933 (Or.inl (by simp)) : zFr [178] [(170, 20)] _ _) (by simp) (by simp) (by simp) hT1))))⟩)⟩
    · have y0 : zLk R C rk 4 b t a 0 = true := zLk_t (i := 0) (by rw [zb0]; exact r1) (Or.inl (by omega))
      have n1 : zLk R C rk 4 b t a 1 = false := zLk_n (i := 1) (by rw [zb1]; exact r2)
      have tm1 : (Int32.ofInt (-1)).toInt = -1 := by decide
      show zW n D 204 Q 32 [some (.ref 170), some (.int (zn (3 * l)))] [.int (Int32.ofInt (-1)), .int (zn (3 * l)), .ref 178] ph1888
      refine w_ias (pc' := 33) (k := 3 * l) (ykc_204 (e := (5, .iastore, 0)) rfl) (by omega) rfl (fun ph1950 u1949 => ?_)
      refine w_load (pc' := 34) (v := .ref 170) (m := 1) (ykc_204 (e := (2, .aload_n kF0, 0)) rfl) rfl rfl ?_
      refine w_gf (pc' := 37) (v := .ref 178) (ykc_204 (e := (5, .getfield 53, 0)) rfl) rfl ((u1949.2.1 170 19 (fun q => absurd q.1 (by decide))).trans ((ff.1 170 19 (by decide) (by decide)).trans (zsg hS zs_170_19))) rfl ?_
      refine w_load (pc' := 38) (v := .int (zn (3 * l))) (m := 1) (ykc_204 (e := (2, .iload_n kF1, 0)) rfl) rfl rfl ?_
      refine w_ialk (pc' := 39) (k := 3 * l) (ykc_204 (e := (5, .iaload, 0)) rfl) u1949.1 (by omega) rfl ?_
      refine w_zlt (ykc_204 (e := (4, .ifCond .lt 34, 73)) rfl) rfl (fun b1951 => ?_) (fun q => by exfalso; omega)
      refine w_load (pc' := 74) (v := .ref 170) (m := 1) (ykc_204 (e := (2, .aload_n kF0, 0)) rfl) rfl rfl ?_
      refine w_gf (pc' := 77) (v := .ref 178) (ykc_204 (e := (5, .getfield 53, 0)) rfl) rfl ((u1949.2.1 170 19 (fun q => absurd q.1 (by decide))).trans ((ff.1 170 19 (by decide) (by decide)).trans (zsg hS zs_170_19))) rfl ?_
      refine w_load (pc' := 78) (v := .int (zn (3 * l))) (m := 1) (ykc_204 (e := (2, .iload_n kF1, 0)) rfl) rfl rfl ?_
      refine w_alu (pc' := 79) (st' := [.int (Int32.ofInt 1), .int (zn (3 * l)), .ref 178]) (ykc_204 (e := (0, .iconst 1, 0)) rfl) rfl rfl ?_
      have e1952 : (zn (3 * l)) + (Int32.ofInt 1) = zn (3 * l + 1) := (zaddN (a := 3 * l) (b := 1) (znt (by omega)) c_4 (by omega)) 
      have te1952 := znt (k := 3 * l + 1) (by omega)
      refine w_alu (pc' := 80) (st' := [.int (zn (3 * l + 1)), .ref 178]) (ykc_204 (e := (0, .iadd, 0)) rfl) (by rw [← e1952]; rfl) rfl ?_
      refine w_load (pc' := 81) (v := .ref 170) (m := 1) (ykc_204 (e := (2, .aload_n kF0, 0)) rfl) rfl rfl ?_
      refine w_gf (pc' := 84) (v := .ref 178) (ykc_204 (e := (5, .getfield 53, 0)) rfl) rfl ((u1949.2.1 170 19 (fun q => absurd q.1 (by decide))).trans ((ff.1 170 19 (by decide) (by decide)).trans (zsg hS zs_170_19))) rfl ?_
      refine w_load (pc' := 85) (v := .int (zn (3 * l))) (m := 1) (ykc_204 (e := (2, .iload_n kF1, 0)) rfl) rfl rfl ?_
      refine w_ialk (pc' := 86) (k := 3 * l) (ykc_204 (e := (5, .iaload, 0)) rfl) u1949.1 (by omega) rfl ?_
      refine w_zge (ykc_204 (e := (4, .ifCond .ge 7, 93)) rfl) rfl (fun q => by exfalso; omega) (fun b1953 => ?_)
      refine w_alu (pc' := 90) (st' := [.int (Int32.ofInt (-1)), .int (zn (3 * l + 1)), .ref 178]) (ykc_204 (e := (0, .iconst (-1), 0)) rfl) rfl rfl ?_
      refine w_br (pc' := 100) (st' := [.int (Int32.ofInt (-1)), .int (zn (3 * l + 1)), .ref 178]) (ykc_204 (e := (4, .goto 10, 100)) rfl) rfl ?_
      refine w_ias (pc' := 101) (k := 3 * l + 1) (ykc_204 (e := (5, .iastore, 0)) rfl) (by omega) rfl (fun ph1955 u1954 => ?_)
      refine w_load (pc' := 102) (v := .ref 170) (m := 1) (ykc_204 (e := (2, .aload_n kF0, 0)) rfl) rfl rfl ?_
      refine w_gf (pc' := 105) (v := .ref 178) (ykc_204 (e := (5, .getfield 53, 0)) rfl) rfl ((u1954.2.1 170 19 (fun q => absurd q.1 (by decide))).trans ((u1949.2.1 170 19 (fun q => absurd q.1 (by decide))).trans ((ff.1 170 19 (by decide) (by decide)).trans (zsg hS zs_170_19)))) rfl ?_
      refine w_load (pc' := 106) (v := .int (zn (3 * l))) (m := 1) (ykc_204 (e := (2, .iload_n kF1, 0)) rfl) rfl rfl ?_
      refine w_alu (pc' := 107) (st' := [.int (Int32.ofInt 2), .int (zn (3 * l)), .ref 178]) (ykc_204 (e := (0, .iconst 2, 0)) rfl) rfl rfl ?_
      have e1956 : (zn (3 * l)) + (Int32.ofInt 2) = zn (3 * l + 2) := (zaddN (a := 3 * l) (b := 2) (znt (by omega)) c_5 (by omega)) 
      have te1956 := znt (k := 3 * l + 2) (by omega)
      refine w_alu (pc' := 108) (st' := [.int (zn (3 * l + 2)), .ref 178]) (ykc_204 (e := (0, .iadd, 0)) rfl) (by rw [← e1956]; rfl) rfl ?_
      refine w_load (pc' := 109) (v := .ref 170) (m := 1) (ykc_204 (e := (2, .aload_n kF0, 0)) rfl) rfl rfl ?_
      refine w_gf (pc' := 112) (v := .ref 178) (ykc_204 (e := (5, .getfield 53, 0)) rfl) rfl ((u1954.2.1 170 19 (fun q => absurd q.1 (by decide))).trans ((u1949.2.1 170 19 (fun q => absurd q.1 (by decide))).trans ((ff.1 170 19 (by decide) (by decide)).trans (zsg hS zs_170_19)))) rfl ?_
      refine w_load (pc' := 113) (v := .int (zn (3 * l))) (m := 1) (ykc_204 (e := (2, .iload_n kF1, 0)) rfl) rfl rfl ?_
      refine w_alu (pc' := 114) (st' := [.int (Int32.ofInt 1), .int (zn (3 * l)), .ref 178, .int (zn (3 * l + 2)), .ref 178]) (ykc_204 (e := (0, .iconst 1, 0)) rfl) rfl rfl ?_
      have e1957 : (zn (3 * l)) + (Int32.ofInt 1) = zn (3 * l + 1) := (zaddN (a := 3 * l) (b := 1) (znt (by omega)) c_4 (by omega)) 
      have te1957 := znt (k := 3 * l + 1) (by omega)
      refine w_alu (pc' := 115) (st' := [.int (zn (3 * l + 1)), .ref 178, .int (zn (3 * l + 2)), .ref 178]) (ykc_204 (e := (0, .iadd, 0)) rfl) (by rw [← e1957]; rfl) rfl ?_
      refine w_ialk (pc' := 116) (k := 3 * l + 1) (ykc_204 (e := (5, .iaload, 0)) rfl) u1954.1 (by omega) rfl ?_
      refine w_zge (ykc_204 (e := (4, .ifCond .ge 7, 123)) rfl) rfl (fun q => by exfalso; omega) (fun b1958 => ?_)
      refine w_alu (pc' := 120) (st' := [.int (Int32.ofInt (-1)), .int (zn (3 * l + 2)), .ref 178]) (ykc_204 (e := (0, .iconst (-1), 0)) rfl) rfl rfl ?_
      refine w_br (pc' := 129) (st' := [.int (Int32.ofInt (-1)), .int (zn (3 * l + 2)), .ref 178]) (ykc_204 (e := (4, .goto 9, 129)) rfl) rfl ?_
      refine w_ias (pc' := 130) (k := 3 * l + 2) (ykc_204 (e := (5, .iastore, 0)) rfl) (by omega) rfl (fun ph1960 u1959 => ?_)
      refine w_load (pc' := 131) (v := .ref 170) (m := 1) (ykc_204 (e := (2, .aload_n kF0, 0)) rfl) rfl rfl ?_
      refine w_alu (pc' := 132) (st' := [.ref 170, .ref 170]) (ykc_204 (e := (0, .dup, 0)) rfl) rfl rfl ?_
      refine w_gf (pc' := 135) (v := .int (zn l)) (ykc_204 (e := (5, .getfield 197, 0)) rfl) rfl ((u1959.2.1 170 20 (fun q => absurd q.1 (by decide))).trans ((u1954.2.1 170 20 (fun q => absurd q.1 (by decide))).trans ((u1949.2.1 170 20 (fun q => absurd q.1 (by decide))).trans ((ff.1 170 20 (by decide) (by decide)).trans hl)))) rfl ?_
      refine w_alu (pc' := 136) (st' := [.int (Int32.ofInt 1), .int (zn l), .ref 170]) (ykc_204 (e := (0, .iconst 1, 0)) rfl) rfl rfl ?_
      have e1961 : (zn l) + (Int32.ofInt 1) = zn (l + 1) := (zaddN (a := l) (b := 1) (znt (by omega)) c_4 (by omega)) 
      have te1961 := znt (k := l + 1) (by omega)
      refine w_alu (pc' := 137) (st' := [.int (zn (l + 1)), .ref 170]) (ykc_204 (e := (0, .iadd, 0)) rfl) (by rw [← e1961]; rfl) rfl ?_
      refine w_pf (pc' := 140) (ykc_204 (e := (5, .putfield 197, 0)) rfl) rfl rfl (fun ph1963 u1962 => ?_)
      refine w_load (pc' := 141) (v := .ref 170) (m := 1) (ykc_204 (e := (2, .aload_n kF0, 0)) rfl) rfl rfl ?_
      refine w_gf (pc' := 144) (v := .ref 178) (ykc_204 (e := (5, .getfield 53, 0)) rfl) rfl ((u1962.2.1 170 19 (fun q => absurd q.2 (by decide))).trans ((u1959.2.1 170 19 (fun q => absurd q.1 (by decide))).trans ((u1954.2.1 170 19 (fun q => absurd q.1 (by decide))).trans ((u1949.2.1 170 19 (fun q => absurd q.1 (by decide))).trans ((ff.1 170 19 (by decide) (by decide)).trans (zsg hS zs_170_19)))))) rfl ?_
      refine w_load (pc' := 145) (v := .int (zn (3 * l))) (m := 1) (ykc_204 (e := (2, .iload_n kF1, 0)) rfl) rfl rfl ?_
      refine w_alu (pc' := 146) (st' := [.int (Int32.ofInt 2), .int (zn (3 * l)), .ref 178]) (ykc_204 (e := (0, .iconst 2, 0)) rfl) rfl rfl ?_
      have e1964 : (zn (3 * l)) + (Int32.ofInt 2) = zn (3 * l + 2) := (zaddN (a := 3 * l) (b := 2) (znt (by omega)) c_5 (by omega)) 
      have te1964 := znt (k := 3 * l + 2) (by omega)
      refine w_alu (pc' := 147) (st' := [.int (zn (3 * l + 2)), .ref 178]) (ykc_204 (e := (0, .iadd, 0)) rfl) (by rw [← e1964]; rfl) rfl ?_
      refine w_ialk (pc' := 148) (k := 3 * l + 2) (ykc_204 (e := (5, .iaload, 0)) rfl) ((u1962.2.1 178 (3 * l + 2) (fun q => absurd q.1 (by decide))).trans u1959.1) (by omega) rfl ?_
      refine w_zlt (ykc_204 (e := (4, .ifCond .lt 7, 155)) rfl) rfl (fun b1965 => ?_) (fun q => by exfalso; omega)
      refine w_alu (pc' := 156) (st' := [.int (Int32.ofInt 0)]) (ykc_204 (e := (0, .iconst 0, 0)) rfl) rfl rfl ?_
      refine w_ret (v := (some (.int (Int32.ofInt 0)))) (ykc_204 (e := (7, .ireturn, 0)) rfl) zr_z ?_
      have hg := k1 y0 n1
      have f9 : zFr [178] [(170, 15), (170, 20)] ph ph1963 := (zFr_trans (zFr_trans (zFr_trans (zFr_trans (zFr_mono ff (by simp) (by simp)) (zFr_st u1949 (Or.inl (by simp)))) (zFr_st u1954 (Or.inl (by simp)))) (zFr_st u1959 (Or.inl (by simp)))) (zFr_st u1962 (Or.inr (by simp))))
      rw [hQ, zi0]
      exact ⟨f9, Or.inr (Or.inr ⟨by omega, by omega, rfl, by rw [hg]; exact (zTm_F (zFr_st u1962 (Or.inr (by simp)) : zFr [178] [(170, 20)] _ _) (by simp) (by simp) (by simp) (zTm_F (zFr_st u1959 (Or.inl (by simp)) : zFr [178] [(170, 20)] _ _) (by simp) (by simp) (by simp) (zTm_F (zFr_st u1954 (Or.inl (by simp)) : zFr [178] [(170, 20)] _ _) (by simp) (by simp) (by simp) (zTm_F (zFr_st u1949 (Or.inl (by simp)) : zFr [178] [(170, 20)] _ _) (by simp) (by simp) (by simp) hff))))⟩)⟩
    · have n0 : zLk R C rk 4 b t a 0 = false := zLk_n (i := 0) (by rw [zb0]; exact r1)
      have tm1 : (Int32.ofInt (-1)).toInt = -1 := by decide
      show zW n D 204 Q 32 [some (.ref 170), some (.int (zn (3 * l)))] [.int (Int32.ofInt (-1)), .int (zn (3 * l)), .ref 178] ph1888
      refine w_ias (pc' := 33) (k := 3 * l) (ykc_204 (e := (5, .iastore, 0)) rfl) (by omega) rfl (fun ph1967 u1966 => ?_)
      refine w_load (pc' := 34) (v := .ref 170) (m := 1) (ykc_204 (e := (2, .aload_n kF0, 0)) rfl) rfl rfl ?_
      refine w_gf (pc' := 37) (v := .ref 178) (ykc_204 (e := (5, .getfield 53, 0)) rfl) rfl ((u1966.2.1 170 19 (fun q => absurd q.1 (by decide))).trans ((ff.1 170 19 (by decide) (by decide)).trans (zsg hS zs_170_19))) rfl ?_
      refine w_load (pc' := 38) (v := .int (zn (3 * l))) (m := 1) (ykc_204 (e := (2, .iload_n kF1, 0)) rfl) rfl rfl ?_
      refine w_ialk (pc' := 39) (k := 3 * l) (ykc_204 (e := (5, .iaload, 0)) rfl) u1966.1 (by omega) rfl ?_
      refine w_zlt (ykc_204 (e := (4, .ifCond .lt 34, 73)) rfl) rfl (fun b1968 => ?_) (fun q => by exfalso; omega)
      refine w_load (pc' := 74) (v := .ref 170) (m := 1) (ykc_204 (e := (2, .aload_n kF0, 0)) rfl) rfl rfl ?_
      refine w_gf (pc' := 77) (v := .ref 178) (ykc_204 (e := (5, .getfield 53, 0)) rfl) rfl ((u1966.2.1 170 19 (fun q => absurd q.1 (by decide))).trans ((ff.1 170 19 (by decide) (by decide)).trans (zsg hS zs_170_19))) rfl ?_
      refine w_load (pc' := 78) (v := .int (zn (3 * l))) (m := 1) (ykc_204 (e := (2, .iload_n kF1, 0)) rfl) rfl rfl ?_
      refine w_alu (pc' := 79) (st' := [.int (Int32.ofInt 1), .int (zn (3 * l)), .ref 178]) (ykc_204 (e := (0, .iconst 1, 0)) rfl) rfl rfl ?_
      have e1969 : (zn (3 * l)) + (Int32.ofInt 1) = zn (3 * l + 1) := (zaddN (a := 3 * l) (b := 1) (znt (by omega)) c_4 (by omega)) 
      have te1969 := znt (k := 3 * l + 1) (by omega)
      refine w_alu (pc' := 80) (st' := [.int (zn (3 * l + 1)), .ref 178]) (ykc_204 (e := (0, .iadd, 0)) rfl) (by rw [← e1969]; rfl) rfl ?_
      refine w_load (pc' := 81) (v := .ref 170) (m := 1) (ykc_204 (e := (2, .aload_n kF0, 0)) rfl) rfl rfl ?_
      refine w_gf (pc' := 84) (v := .ref 178) (ykc_204 (e := (5, .getfield 53, 0)) rfl) rfl ((u1966.2.1 170 19 (fun q => absurd q.1 (by decide))).trans ((ff.1 170 19 (by decide) (by decide)).trans (zsg hS zs_170_19))) rfl ?_
      refine w_load (pc' := 85) (v := .int (zn (3 * l))) (m := 1) (ykc_204 (e := (2, .iload_n kF1, 0)) rfl) rfl rfl ?_
      refine w_ialk (pc' := 86) (k := 3 * l) (ykc_204 (e := (5, .iaload, 0)) rfl) u1966.1 (by omega) rfl ?_
      refine w_zge (ykc_204 (e := (4, .ifCond .ge 7, 93)) rfl) rfl (fun q => by exfalso; omega) (fun b1970 => ?_)
      refine w_alu (pc' := 90) (st' := [.int (Int32.ofInt (-1)), .int (zn (3 * l + 1)), .ref 178]) (ykc_204 (e := (0, .iconst (-1), 0)) rfl) rfl rfl ?_
      refine w_br (pc' := 100) (st' := [.int (Int32.ofInt (-1)), .int (zn (3 * l + 1)), .ref 178]) (ykc_204 (e := (4, .goto 10, 100)) rfl) rfl ?_
      refine w_ias (pc' := 101) (k := 3 * l + 1) (ykc_204 (e := (5, .iastore, 0)) rfl) (by omega) rfl (fun ph1972 u1971 => ?_)
      refine w_load (pc' := 102) (v := .ref 170) (m := 1) (ykc_204 (e := (2, .aload_n kF0, 0)) rfl) rfl rfl ?_
      refine w_gf (pc' := 105) (v := .ref 178) (ykc_204 (e := (5, .getfield 53, 0)) rfl) rfl ((u1971.2.1 170 19 (fun q => absurd q.1 (by decide))).trans ((u1966.2.1 170 19 (fun q => absurd q.1 (by decide))).trans ((ff.1 170 19 (by decide) (by decide)).trans (zsg hS zs_170_19)))) rfl ?_
      refine w_load (pc' := 106) (v := .int (zn (3 * l))) (m := 1) (ykc_204 (e := (2, .iload_n kF1, 0)) rfl) rfl rfl ?_
      refine w_alu (pc' := 107) (st' := [.int (Int32.ofInt 2), .int (zn (3 * l)), .ref 178]) (ykc_204 (e := (0, .iconst 2, 0)) rfl) rfl rfl ?_
      have e1973 : (zn (3 * l)) + (Int32.ofInt 2) = zn (3 * l + 2) := (zaddN (a := 3 * l) (b := 2) (znt (by omega)) c_5 (by omega)) 
      have te1973 := znt (k := 3 * l + 2) (by omega)
      refine w_alu (pc' := 108) (st' := [.int (zn (3 * l + 2)), .ref 178]) (ykc_204 (e := (0, .iadd, 0)) rfl) (by rw [← e1973]; rfl) rfl ?_
      refine w_load (pc' := 109) (v := .ref 170) (m := 1) (ykc_204 (e := (2, .aload_n kF0, 0)) rfl) rfl rfl ?_
      refine w_gf (pc' := 112) (v := .ref 178) (ykc_204 (e := (5, .getfield 53, 0)) rfl) rfl ((u1971.2.1 170 19 (fun q => absurd q.1 (by decide))).trans ((u1966.2.1 170 19 (fun q => absurd q.1 (by decide))).trans ((ff.1 170 19 (by decide) (by decide)).trans (zsg hS zs_170_19)))) rfl ?_
      refine w_load (pc' := 113) (v := .int (zn (3 * l))) (m := 1) (ykc_204 (e := (2, .iload_n kF1, 0)) rfl) rfl rfl ?_
      refine w_alu (pc' := 114) (st' := [.int (Int32.ofInt 1), .int (zn (3 * l)), .ref 178, .int (zn (3 * l + 2)), .ref 178]) (ykc_204 (e := (0, .iconst 1, 0)) rfl) rfl rfl ?_
      have e1974 : (zn (3 * l)) + (Int32.ofInt 1) = zn (3 * l + 1) := (zaddN (a := 3 * l) (b := 1) (znt (by omega)) c_4 (by omega)) 
      have te1974 := znt (k := 3 * l + 1) (by omega)
      refine w_alu (pc' := 115) (st' := [.int (zn (3 * l + 1)), .ref 178, .int (zn (3 * l + 2)), .ref 178]) (ykc_204 (e := (0, .iadd, 0)) rfl) (by rw [← e1974]; rfl) rfl ?_
      refine w_ialk (pc' := 116) (k := 3 * l + 1) (ykc_204 (e := (5, .iaload, 0)) rfl) u1971.1 (by omega) rfl ?_
      refine w_zge (ykc_204 (e := (4, .ifCond .ge 7, 123)) rfl) rfl (fun q => by exfalso; omega) (fun b1975 => ?_)
      refine w_alu (pc' := 120) (st' := [.int (Int32.ofInt (-1)), .int (zn (3 * l + 2)), .ref 178]) (ykc_204 (e := (0, .iconst (-1), 0)) rfl) rfl rfl ?_
      refine w_br (pc' := 129) (st' := [.int (Int32.ofInt (-1)), .int (zn (3 * l + 2)), .ref 178]) (ykc_204 (e := (4, .goto 9, 129)) rfl) rfl ?_
      refine w_ias (pc' := 130) (k := 3 * l + 2) (ykc_204 (e := (5, .iastore, 0)) rfl) (by omega) rfl (fun ph1977 u1976 => ?_)
      refine w_load (pc' := 131) (v := .ref 170) (m := 1) (ykc_204 (e := (2, .aload_n kF0, 0)) rfl) rfl rfl ?_
      refine w_alu (pc' := 132) (st' := [.ref 170, .ref 170]) (ykc_204 (e := (0, .dup, 0)) rfl) rfl rfl ?_
      refine w_gf (pc' := 135) (v := .int (zn l)) (ykc_204 (e := (5, .getfield 197, 0)) rfl) rfl ((u1976.2.1 170 20 (fun q => absurd q.1 (by decide))).trans ((u1971.2.1 170 20 (fun q => absurd q.1 (by decide))).trans ((u1966.2.1 170 20 (fun q => absurd q.1 (by decide))).trans ((ff.1 170 20 (by decide) (by decide)).trans hl)))) rfl ?_
      refine w_alu (pc' := 136) (st' := [.int (Int32.ofInt 1), .int (zn l), .ref 170]) (ykc_204 (e := (0, .iconst 1, 0)) rfl) rfl rfl ?_
      have e1978 : (zn l) + (Int32.ofInt 1) = zn (l + 1) := (zaddN (a := l) (b := 1) (znt (by omega)) c_4 (by omega)) 
      have te1978 := znt (k := l + 1) (by omega)
      refine w_alu (pc' := 137) (st' := [.int (zn (l + 1)), .ref 170]) (ykc_204 (e := (0, .iadd, 0)) rfl) (by rw [← e1978]; rfl) rfl ?_
      refine w_pf (pc' := 140) (ykc_204 (e := (5, .putfield 197, 0)) rfl) rfl rfl (fun ph1980 u1979 => ?_)
      refine w_load (pc' := 141) (v := .ref 170) (m := 1) (ykc_204 (e := (2, .aload_n kF0, 0)) rfl) rfl rfl ?_
      refine w_gf (pc' := 144) (v := .ref 178) (ykc_204 (e := (5, .getfield 53, 0)) rfl) rfl ((u1979.2.1 170 19 (fun q => absurd q.2 (by decide))).trans ((u1976.2.1 170 19 (fun q => absurd q.1 (by decide))).trans ((u1971.2.1 170 19 (fun q => absurd q.1 (by decide))).trans ((u1966.2.1 170 19 (fun q => absurd q.1 (by decide))).trans ((ff.1 170 19 (by decide) (by decide)).trans (zsg hS zs_170_19)))))) rfl ?_
      refine w_load (pc' := 145) (v := .int (zn (3 * l))) (m := 1) (ykc_204 (e := (2, .iload_n kF1, 0)) rfl) rfl rfl ?_
      refine w_alu (pc' := 146) (st' := [.int (Int32.ofInt 2), .int (zn (3 * l)), .ref 178]) (ykc_204 (e := (0, .iconst 2, 0)) rfl) rfl rfl ?_
      have e1981 : (zn (3 * l)) + (Int32.ofInt 2) = zn (3 * l + 2) := (zaddN (a := 3 * l) (b := 2) (znt (by omega)) c_5 (by omega)) 
      have te1981 := znt (k := 3 * l + 2) (by omega)
      refine w_alu (pc' := 147) (st' := [.int (zn (3 * l + 2)), .ref 178]) (ykc_204 (e := (0, .iadd, 0)) rfl) (by rw [← e1981]; rfl) rfl ?_
      refine w_ialk (pc' := 148) (k := 3 * l + 2) (ykc_204 (e := (5, .iaload, 0)) rfl) ((u1979.2.1 178 (3 * l + 2) (fun q => absurd q.1 (by decide))).trans u1976.1) (by omega) rfl ?_
      refine w_zlt (ykc_204 (e := (4, .ifCond .lt 7, 155)) rfl) rfl (fun b1982 => ?_) (fun q => by exfalso; omega)
      refine w_alu (pc' := 156) (st' := [.int (Int32.ofInt 0)]) (ykc_204 (e := (0, .iconst 0, 0)) rfl) rfl rfl ?_
      refine w_ret (v := (some (.int (Int32.ofInt 0)))) (ykc_204 (e := (7, .ireturn, 0)) rfl) zr_z ?_
      have hg := k0 n0
      have f9 : zFr [178] [(170, 15), (170, 20)] ph ph1980 := (zFr_trans (zFr_trans (zFr_trans (zFr_trans (zFr_mono ff (by simp) (by simp)) (zFr_st u1966 (Or.inl (by simp)))) (zFr_st u1971 (Or.inl (by simp)))) (zFr_st u1976 (Or.inl (by simp)))) (zFr_st u1979 (Or.inr (by simp))))
      rw [hQ, zi0]
      exact ⟨f9, Or.inr (Or.inr ⟨by omega, by omega, rfl, by rw [hg]; exact (zTm_F (zFr_st u1979 (Or.inr (by simp)) : zFr [178] [(170, 20)] _ _) (by simp) (by simp) (by simp) (zTm_F (zFr_st u1976 (Or.inl (by simp)) : zFr [178] [(170, 20)] _ _) (by simp) (by simp) (by simp) (zTm_F (zFr_st u1971 (Or.inl (by simp)) : zFr [178] [(170, 20)] _ _) (by simp) (by simp) (by simp) (zTm_F (zFr_st u1966 (Or.inl (by simp)) : zFr [178] [(170, 20)] _ _) (by simp) (by simp) (by simp) hff))))⟩)⟩
    
  · refine w_alu (pc' := 15) (st' := [.int (Int32.ofInt 0)]) (ykc_204 (e := (0, .iconst 0, 0)) rfl) rfl rfl ?_
    refine w_ret (v := (some (.int (Int32.ofInt 0)))) (ykc_204 (e := (7, .ireturn, 0)) rfl) zr_z ?_
    rw [hQ, zi0]
    exact ⟨zFr_refl, Or.inl ⟨by omega, rfl, hT⟩⟩
theorem zm_rthing {ph : pm_H} {R C a b ln : Nat} {rk : Nat → Bool} {t : Nat → Nat} (hS : zSh ph) (hL : zMl ph R C rk) (hT : zTm ph a b ln t) {l N : Nat} (hl : zc ph 170 20 = some (.int (zn l))) (hl8 : l < 8) (hN : zc ph 170 6 = some (.int (zn N))) (hN8 : N + l ≤ 8) : zM 205 [.ref 170] ph (fun v0 q => zFr [178] [(170, 15), (170, 20)] ph q ∧ ((N + l = 8 ∧ v0 = some (.int (zI false)) ∧ zTm q a b ln t) ∨ (N + l < 8 ∧ zLg R C rk 2 b t a 2 = 2 ∧ v0 = some (.int (zI true)) ∧ zTm q (a + 2) b ln t ∧ zc q 170 20 = some (.int (zn (l + 1))) ∧ zc q 178 l = some (.int (zn (zLf C t a))) ∧ ∀ i, i < l → zc q 178 i = zc ph 178 i) ∨ (N + l < 8 ∧ zLg R C rk 2 b t a 2 < 2 ∧ v0 = some (.int (zI false)) ∧ zTm q (a + zLg R C rk 2 b t a 2) b ln t))) := by
  obtain ⟨Q, hQ⟩ : ∃ Q : Option Value → pm_H → Prop, Q = (fun v0 q => zFr [178] [(170, 15), (170, 20)] ph q ∧ ((N + l = 8 ∧ v0 = some (.int (zI false)) ∧ zTm q a b ln t) ∨ (N + l < 8 ∧ zLg R C rk 2 b t a 2 = 2 ∧ v0 = some (.int (zI true)) ∧ zTm q (a + 2) b ln t ∧ zc q 170 20 = some (.int (zn (l + 1))) ∧ zc q 178 l = some (.int (zn (zLf C t a))) ∧ ∀ i, i < l → zc q 178 i = zc ph 178 i) ∨ (N + l < 8 ∧ zLg R C rk 2 b t a 2 < 2 ∧ v0 = some (.int (zI false)) ∧ zTm q (a + zLg R C rk 2 b t a 2) b ln t))) := ⟨_, rfl⟩
  rw [← hQ]
  refine zM_mk fun n D => ?_
  show zW n D 205 Q 0 [some (.ref 170)] [] ph
  have c_0 : ((Int8.ofInt 8).toInt32).toInt = 8 := by decide
  have c_1 : (Int32.ofInt 0).toInt = 0 := by decide
  have c_2 : (Int32.ofInt 1).toInt = 1 := by decide
  have hL0 := hL
  have hab := hT.2.2.1
  have hb80 : b ≤ 80 := Nat.le_trans hT.2.2.2.1 hT.2.2.2.2.1
  obtain ⟨gR, gC, gK, hR3, hR7, hC3, hC7⟩ := hL
  have hRC := zRC49 hR7 hC7
  have tl := znt (k := l) (by omega)
  have tN := znt (k := N) (by omega)
  obtain ⟨k0, k1, k2⟩ := @zLg_2 R C 2 b a rk t
  refine w_load (pc' := 1) (v := .ref 170) (m := 1) (ykc_205 (e := (2, .aload_n kF0, 0)) rfl) rfl rfl ?_
  refine w_gf (pc' := 4) (v := .int (zn N)) (ykc_205 (e := (5, .getfield 133, 0)) rfl) rfl hN rfl ?_
  refine w_load (pc' := 5) (v := .ref 170) (m := 1) (ykc_205 (e := (2, .aload_n kF0, 0)) rfl) rfl rfl ?_
  refine w_gf (pc' := 8) (v := .int (zn l)) (ykc_205 (e := (5, .getfield 197, 0)) rfl) rfl hl rfl ?_
  have e1983 : (zn N) + (zn l) = zn (N + l) := (zaddN (a := N) (b := l) (znt (by omega)) (znt (by omega)) (by omega)) 
  have te1983 := znt (k := N + l) (by omega)
  refine w_alu (pc' := 9) (st' := [.int (zn (N + l))]) (ykc_205 (e := (0, .iadd, 0)) rfl) (by rw [← e1983]; rfl) rfl ?_
  refine w_push (pc' := 11) (v := .int ((Int8.ofInt 8).toInt32)) (m := 2) (ykc_205 (e := (1, .bipush 8, 0)) rfl) rfl rfl ?_
  refine w_ine (ykc_205 (e := (4, .if_icmp .ne 5, 16)) rfl) rfl (fun b1984 => ?_) (fun b1984 => ?_)
  · refine w_load (pc' := 17) (v := .ref 170) (m := 1) (ykc_205 (e := (2, .aload_n kF0, 0)) rfl) rfl rfl ?_
    refine w_gf (pc' := 20) (v := .ref 178) (ykc_205 (e := (5, .getfield 53, 0)) rfl) rfl (zsg hS zs_170_19) rfl ?_
    refine w_load (pc' := 21) (v := .ref 170) (m := 1) (ykc_205 (e := (2, .aload_n kF0, 0)) rfl) rfl rfl ?_
    refine w_gf (pc' := 24) (v := .int (zn l)) (ykc_205 (e := (5, .getfield 197, 0)) rfl) rfl hl rfl ?_
    refine w_load (pc' := 25) (v := .ref 170) (m := 1) (ykc_205 (e := (2, .aload_n kF0, 0)) rfl) rfl rfl ?_
    refine w_cv (as := [.ref 170]) (r := [.int (zn l), .ref 178]) (ykc_205 (e := (6, .invokevirtual 200, 0)) rfl) rfl rfl rfl rfl (zm_rfield hS hL0 hT) (fun v1985 ph1986 hv => ?_)
    rcases hv with ⟨ff, ⟨r1, r2, rfl, hff⟩ | ⟨r1, r2, rfl, hff⟩ | ⟨r1, rfl, hff⟩⟩
    · have y0 : zLk R C rk 2 b t a 0 = true := zLk_t (i := 0) (by rw [zb0]; exact r1) (Or.inl (by omega))
      have y1 : zLk R C rk 2 b t a 1 = true := zLk_t (i := 1) (by rw [zb1]; exact r2) (Or.inl (by omega))
      have d0 : a < b ∧ 48 ≤ t a ∧ t a < 48 + R := of_decide_eq_true r1
      have d1 : a + 1 < b ∧ 48 ≤ t (a + 1) ∧ t (a + 1) < 48 + C := of_decide_eq_true r2
      have lf := zLf_lt (R := R) (C := C) (t := t) (p := a) (by omega) (by omega) d0.2.2 d1.2.2
      have tf := znt (k := zLf C t a) (by omega)
      show zW n D 205 Q 28 [some (.ref 170)] [.int (zn (zLf C t a)), .int (zn l), .ref 178] ph1986
      refine w_ias (pc' := 29) (k := l) (ykc_205 (e := (5, .iastore, 0)) rfl) (by omega) rfl (fun ph1988 u1987 => ?_)
      refine w_load (pc' := 30) (v := .ref 170) (m := 1) (ykc_205 (e := (2, .aload_n kF0, 0)) rfl) rfl rfl ?_
      refine w_alu (pc' := 31) (st' := [.ref 170, .ref 170]) (ykc_205 (e := (0, .dup, 0)) rfl) rfl rfl ?_
      refine w_gf (pc' := 34) (v := .int (zn l)) (ykc_205 (e := (5, .getfield 197, 0)) rfl) rfl ((u1987.2.1 170 20 (fun q => absurd q.1 (by decide))).trans ((ff.1 170 20 (by decide) (by decide)).trans hl)) rfl ?_
      refine w_alu (pc' := 35) (st' := [.int (Int32.ofInt 1), .int (zn l), .ref 170]) (ykc_205 (e := (0, .iconst 1, 0)) rfl) rfl rfl ?_
      have e1989 : (zn l) + (Int32.ofInt 1) = zn (l + 1) := (zaddN (a := l) (b := 1) (znt (by omega)) c_2 (by omega)) 
      have te1989 := znt (k := l + 1) (by omega)
      refine w_alu (pc' := 36) (st' := [.int (zn (l + 1)), .ref 170]) (ykc_205 (e := (0, .iadd, 0)) rfl) (by rw [← e1989]; rfl) rfl ?_
      refine w_pf (pc' := 39) (ykc_205 (e := (5, .putfield 197, 0)) rfl) rfl rfl (fun ph1991 u1990 => ?_)
      refine w_load (pc' := 40) (v := .ref 170) (m := 1) (ykc_205 (e := (2, .aload_n kF0, 0)) rfl) rfl rfl ?_
      refine w_gf (pc' := 43) (v := .ref 178) (ykc_205 (e := (5, .getfield 53, 0)) rfl) rfl ((u1990.2.1 170 19 (fun q => absurd q.2 (by decide))).trans ((u1987.2.1 170 19 (fun q => absurd q.1 (by decide))).trans ((ff.1 170 19 (by decide) (by decide)).trans (zsg hS zs_170_19)))) rfl ?_
      refine w_load (pc' := 44) (v := .ref 170) (m := 1) (ykc_205 (e := (2, .aload_n kF0, 0)) rfl) rfl rfl ?_
      refine w_gf (pc' := 47) (v := .int (zn (l + 1))) (ykc_205 (e := (5, .getfield 197, 0)) rfl) rfl u1990.1 rfl ?_
      refine w_alu (pc' := 48) (st' := [.int (Int32.ofInt 1), .int (zn (l + 1)), .ref 178]) (ykc_205 (e := (0, .iconst 1, 0)) rfl) rfl rfl ?_
      have e1992 : (zn (l + 1)) - (Int32.ofInt 1) = zn (l) := zsubN (a := l + 1) (b := 1) (znt (by omega)) c_2 (by omega)
      have te1992 := znt (k := l) (by omega)
      refine w_alu (pc' := 49) (st' := [.int (zn (l)), .ref 178]) (ykc_205 (e := (0, .isub, 0)) rfl) (by show some ([.int ((zn (l + 1)) - (Int32.ofInt 1)), .ref 178] : List Value) = _; rw [e1992]) rfl ?_
      refine w_ialk (pc' := 50) (k := l) (ykc_205 (e := (5, .iaload, 0)) rfl) ((u1990.2.1 178 l (fun q => absurd q.1 (by decide))).trans u1987.1) (by omega) rfl ?_
      refine w_zlt (ykc_205 (e := (4, .ifCond .lt 7, 57)) rfl) rfl (fun q => by exfalso; omega) (fun b1993 => ?_)
      refine w_alu (pc' := 54) (st' := [.int (Int32.ofInt 1)]) (ykc_205 (e := (0, .iconst 1, 0)) rfl) rfl rfl ?_
      refine w_br (pc' := 58) (st' := [.int (Int32.ofInt 1)]) (ykc_205 (e := (4, .goto 4, 58)) rfl) rfl ?_
      refine w_ret (v := (some (.int (Int32.ofInt 1)))) (ykc_205 (e := (7, .ireturn, 0)) rfl) zr_z ?_
      have hg := k2 y0 y1
      have f9 : zFr [178] [(170, 15), (170, 20)] ph ph1991 := (zFr_trans (zFr_trans (zFr_mono ff (by simp) (by simp)) (zFr_st u1987 (Or.inl (by simp)))) (zFr_st u1990 (Or.inr (by simp))))
      rw [hQ, zi1]
      exact ⟨f9, Or.inr (Or.inl ⟨by omega, hg, rfl, (zTm_F (zFr_st u1990 (Or.inr (by simp)) : zFr [178] [(170, 20)] _ _) (by simp) (by simp) (by simp) (zTm_F (zFr_st u1987 (Or.inl (by simp)) : zFr [178] [(170, 20)] _ _) (by simp) (by simp) (by simp) hff)), u1990.1, ((u1990.2.1 178 l (fun q => absurd q.1 (by decide))).trans u1987.1), fun i hi => ((u1990.2.1 178 i (fun q => absurd q.1 (by decide))).trans ((u1987.2.1 178 i (fun q => by have q2 := q.2; omega)).trans (ff.1 178 i (by decide) (by simp))))⟩)⟩
    · have y0 : zLk R C rk 2 b t a 0 = true := zLk_t (i := 0) (by rw [zb0]; exact r1) (Or.inl (by omega))
      have n1 : zLk R C rk 2 b t a 1 = false := zLk_n (i := 1) (by rw [zb1]; exact r2)
      have tm1 : (Int32.ofInt (-1)).toInt = -1 := by decide
      show zW n D 205 Q 28 [some (.ref 170)] [.int (Int32.ofInt (-1)), .int (zn l), .ref 178] ph1986
      refine w_ias (pc' := 29) (k := l) (ykc_205 (e := (5, .iastore, 0)) rfl) (by omega) rfl (fun ph1995 u1994 => ?_)
      refine w_load (pc' := 30) (v := .ref 170) (m := 1) (ykc_205 (e := (2, .aload_n kF0, 0)) rfl) rfl rfl ?_
      refine w_alu (pc' := 31) (st' := [.ref 170, .ref 170]) (ykc_205 (e := (0, .dup, 0)) rfl) rfl rfl ?_
      refine w_gf (pc' := 34) (v := .int (zn l)) (ykc_205 (e := (5, .getfield 197, 0)) rfl) rfl ((u1994.2.1 170 20 (fun q => absurd q.1 (by decide))).trans ((ff.1 170 20 (by decide) (by decide)).trans hl)) rfl ?_
      refine w_alu (pc' := 35) (st' := [.int (Int32.ofInt 1), .int (zn l), .ref 170]) (ykc_205 (e := (0, .iconst 1, 0)) rfl) rfl rfl ?_
      have e1996 : (zn l) + (Int32.ofInt 1) = zn (l + 1) := (zaddN (a := l) (b := 1) (znt (by omega)) c_2 (by omega)) 
      have te1996 := znt (k := l + 1) (by omega)
      refine w_alu (pc' := 36) (st' := [.int (zn (l + 1)), .ref 170]) (ykc_205 (e := (0, .iadd, 0)) rfl) (by rw [← e1996]; rfl) rfl ?_
      refine w_pf (pc' := 39) (ykc_205 (e := (5, .putfield 197, 0)) rfl) rfl rfl (fun ph1998 u1997 => ?_)
      refine w_load (pc' := 40) (v := .ref 170) (m := 1) (ykc_205 (e := (2, .aload_n kF0, 0)) rfl) rfl rfl ?_
      refine w_gf (pc' := 43) (v := .ref 178) (ykc_205 (e := (5, .getfield 53, 0)) rfl) rfl ((u1997.2.1 170 19 (fun q => absurd q.2 (by decide))).trans ((u1994.2.1 170 19 (fun q => absurd q.1 (by decide))).trans ((ff.1 170 19 (by decide) (by decide)).trans (zsg hS zs_170_19)))) rfl ?_
      refine w_load (pc' := 44) (v := .ref 170) (m := 1) (ykc_205 (e := (2, .aload_n kF0, 0)) rfl) rfl rfl ?_
      refine w_gf (pc' := 47) (v := .int (zn (l + 1))) (ykc_205 (e := (5, .getfield 197, 0)) rfl) rfl u1997.1 rfl ?_
      refine w_alu (pc' := 48) (st' := [.int (Int32.ofInt 1), .int (zn (l + 1)), .ref 178]) (ykc_205 (e := (0, .iconst 1, 0)) rfl) rfl rfl ?_
      have e1999 : (zn (l + 1)) - (Int32.ofInt 1) = zn (l) := zsubN (a := l + 1) (b := 1) (znt (by omega)) c_2 (by omega)
      have te1999 := znt (k := l) (by omega)
      refine w_alu (pc' := 49) (st' := [.int (zn (l)), .ref 178]) (ykc_205 (e := (0, .isub, 0)) rfl) (by show some ([.int ((zn (l + 1)) - (Int32.ofInt 1)), .ref 178] : List Value) = _; rw [e1999]) rfl ?_
      refine w_ialk (pc' := 50) (k := l) (ykc_205 (e := (5, .iaload, 0)) rfl) ((u1997.2.1 178 l (fun q => absurd q.1 (by decide))).trans u1994.1) (by omega) rfl ?_
      refine w_zlt (ykc_205 (e := (4, .ifCond .lt 7, 57)) rfl) rfl (fun b2000 => ?_) (fun q => by exfalso; omega)
      refine w_alu (pc' := 58) (st' := [.int (Int32.ofInt 0)]) (ykc_205 (e := (0, .iconst 0, 0)) rfl) rfl rfl ?_
      refine w_ret (v := (some (.int (Int32.ofInt 0)))) (ykc_205 (e := (7, .ireturn, 0)) rfl) zr_z ?_
      have hg := k1 y0 n1
      have f9 : zFr [178] [(170, 15), (170, 20)] ph ph1998 := (zFr_trans (zFr_trans (zFr_mono ff (by simp) (by simp)) (zFr_st u1994 (Or.inl (by simp)))) (zFr_st u1997 (Or.inr (by simp))))
      rw [hQ, zi0]
      exact ⟨f9, Or.inr (Or.inr ⟨by omega, by omega, rfl, by rw [hg]; exact (zTm_F (zFr_st u1997 (Or.inr (by simp)) : zFr [178] [(170, 20)] _ _) (by simp) (by simp) (by simp) (zTm_F (zFr_st u1994 (Or.inl (by simp)) : zFr [178] [(170, 20)] _ _) (by simp) (by simp) (by simp) hff))⟩)⟩
    · have n0 : zLk R C rk 2 b t a 0 = false := zLk_n (i := 0) (by rw [zb0]; exact r1)
      have tm1 : (Int32.ofInt (-1)).toInt = -1 := by decide
      show zW n D 205 Q 28 [some (.ref 170)] [.int (Int32.ofInt (-1)), .int (zn l), .ref 178] ph1986
      refine w_ias (pc' := 29) (k := l) (ykc_205 (e := (5, .iastore, 0)) rfl) (by omega) rfl (fun ph2002 u2001 => ?_)
      refine w_load (pc' := 30) (v := .ref 170) (m := 1) (ykc_205 (e := (2, .aload_n kF0, 0)) rfl) rfl rfl ?_
      refine w_alu (pc' := 31) (st' := [.ref 170, .ref 170]) (ykc_205 (e := (0, .dup, 0)) rfl) rfl rfl ?_
      refine w_gf (pc' := 34) (v := .int (zn l)) (ykc_205 (e := (5, .getfield 197, 0)) rfl) rfl ((u2001.2.1 170 20 (fun q => absurd q.1 (by decide))).trans ((ff.1 170 20 (by decide) (by decide)).trans hl)) rfl ?_
      refine w_alu (pc' := 35) (st' := [.int (Int32.ofInt 1), .int (zn l), .ref 170]) (ykc_205 (e := (0, .iconst 1, 0)) rfl) rfl rfl ?_
      have e2003 : (zn l) + (Int32.ofInt 1) = zn (l + 1) := (zaddN (a := l) (b := 1) (znt (by omega)) c_2 (by omega)) 
      have te2003 := znt (k := l + 1) (by omega)
      refine w_alu (pc' := 36) (st' := [.int (zn (l + 1)), .ref 170]) (ykc_205 (e := (0, .iadd, 0)) rfl) (by rw [← e2003]; rfl) rfl ?_
      refine w_pf (pc' := 39) (ykc_205 (e := (5, .putfield 197, 0)) rfl) rfl rfl (fun ph2005 u2004 => ?_)
      refine w_load (pc' := 40) (v := .ref 170) (m := 1) (ykc_205 (e := (2, .aload_n kF0, 0)) rfl) rfl rfl ?_
      refine w_gf (pc' := 43) (v := .ref 178) (ykc_205 (e := (5, .getfield 53, 0)) rfl) rfl ((u2004.2.1 170 19 (fun q => absurd q.2 (by decide))).trans ((u2001.2.1 170 19 (fun q => absurd q.1 (by decide))).trans ((ff.1 170 19 (by decide) (by decide)).trans (zsg hS zs_170_19)))) rfl ?_
      refine w_load (pc' := 44) (v := .ref 170) (m := 1) (ykc_205 (e := (2, .aload_n kF0, 0)) rfl) rfl rfl ?_
      refine w_gf (pc' := 47) (v := .int (zn (l + 1))) (ykc_205 (e := (5, .getfield 197, 0)) rfl) rfl u2004.1 rfl ?_
      refine w_alu (pc' := 48) (st' := [.int (Int32.ofInt 1), .int (zn (l + 1)), .ref 178]) (ykc_205 (e := (0, .iconst 1, 0)) rfl) rfl rfl ?_
      have e2006 : (zn (l + 1)) - (Int32.ofInt 1) = zn (l) := zsubN (a := l + 1) (b := 1) (znt (by omega)) c_2 (by omega)
      have te2006 := znt (k := l) (by omega)
      refine w_alu (pc' := 49) (st' := [.int (zn (l)), .ref 178]) (ykc_205 (e := (0, .isub, 0)) rfl) (by show some ([.int ((zn (l + 1)) - (Int32.ofInt 1)), .ref 178] : List Value) = _; rw [e2006]) rfl ?_
      refine w_ialk (pc' := 50) (k := l) (ykc_205 (e := (5, .iaload, 0)) rfl) ((u2004.2.1 178 l (fun q => absurd q.1 (by decide))).trans u2001.1) (by omega) rfl ?_
      refine w_zlt (ykc_205 (e := (4, .ifCond .lt 7, 57)) rfl) rfl (fun b2007 => ?_) (fun q => by exfalso; omega)
      refine w_alu (pc' := 58) (st' := [.int (Int32.ofInt 0)]) (ykc_205 (e := (0, .iconst 0, 0)) rfl) rfl rfl ?_
      refine w_ret (v := (some (.int (Int32.ofInt 0)))) (ykc_205 (e := (7, .ireturn, 0)) rfl) zr_z ?_
      have hg := k0 n0
      have f9 : zFr [178] [(170, 15), (170, 20)] ph ph2005 := (zFr_trans (zFr_trans (zFr_mono ff (by simp) (by simp)) (zFr_st u2001 (Or.inl (by simp)))) (zFr_st u2004 (Or.inr (by simp))))
      rw [hQ, zi0]
      exact ⟨f9, Or.inr (Or.inr ⟨by omega, by omega, rfl, by rw [hg]; exact (zTm_F (zFr_st u2004 (Or.inr (by simp)) : zFr [178] [(170, 20)] _ _) (by simp) (by simp) (by simp) (zTm_F (zFr_st u2001 (Or.inl (by simp)) : zFr [178] [(170, 20)] _ _) (by simp) (by simp) (by simp) hff))⟩)⟩
    
  · refine w_alu (pc' := 15) (st' := [.int (Int32.ofInt 0)]) (ykc_205 (e := (0, .iconst 0, 0)) rfl) rfl rfl ?_
    refine w_ret (v := (some (.int (Int32.ofInt 0)))) (ykc_205 (e := (7, .ireturn, 0)) rfl) zr_z ?_
    rw [hQ, zi0]
    exact ⟨zFr_refl, Or.inl ⟨by omega, rfl, hT⟩⟩
theorem zm_rlines4 {ph : pm_H} {R C ln N : Nat} {rk : Nat → Bool} {t : Nat → Nat} {y : Int32} (hS : zSh ph) (hL : zMl ph R C rk) (hn14 : zc ph 170 14 = some (.int (zn ln))) (hn80 : ln ≤ 80) (gtm : ∀ i, i < ln → zc ph 176 i = some (.int (zn (t i))) ∧ t i < 256) (hN : zc ph 170 5 = some (.int (zn N))) (hN8 : N ≤ 8) (hy : y.toInt = 39) : zM 206 [.ref 170, .int (Int32.ofInt 1), .int y] ph (fun v0 q => zFr [178] [(170, 14), (170, 15), (170, 16), (170, 17), (170, 20)] ph q ∧ ∃ z : Int32, v0 = some (.int z) ∧ ((zLa R C rk 4 5 ln t (8 - N) < 0 ∧ z.toInt = zLa R C rk 4 5 ln t (8 - N)) ∨ (0 ≤ zLa R C rk 4 5 ln t (8 - N) ∧ z.toInt = 0 ∧ ∃ k : Nat, (k : Int) = zLa R C rk 4 5 ln t (8 - N) ∧ zc q 170 20 = some (.int (zn k)) ∧ ∀ j, j < k → zLg R C rk 4 ln t (5 * j) 4 = 4 ∧ zc q 178 (3 * j) = some (.int (zn (zLf C t (5 * j)))) ∧ zc q 178 (3 * j + 1) = some (.int (zn (t (5 * j + 2) - 48))) ∧ zc q 178 (3 * j + 2) = some (.int (zn (t (5 * j + 3) - 48)))))) := by
  obtain ⟨Q, hQ⟩ : ∃ Q : Option Value → pm_H → Prop, Q = (fun v0 q => zFr [178] [(170, 14), (170, 15), (170, 16), (170, 17), (170, 20)] ph q ∧ ∃ z : Int32, v0 = some (.int z) ∧ ((zLa R C rk 4 5 ln t (8 - N) < 0 ∧ z.toInt = zLa R C rk 4 5 ln t (8 - N)) ∨ (0 ≤ zLa R C rk 4 5 ln t (8 - N) ∧ z.toInt = 0 ∧ ∃ k : Nat, (k : Int) = zLa R C rk 4 5 ln t (8 - N) ∧ zc q 170 20 = some (.int (zn k)) ∧ ∀ j, j < k → zLg R C rk 4 ln t (5 * j) 4 = 4 ∧ zc q 178 (3 * j) = some (.int (zn (zLf C t (5 * j)))) ∧ zc q 178 (3 * j + 1) = some (.int (zn (t (5 * j + 2) - 48))) ∧ zc q 178 (3 * j + 2) = some (.int (zn (t (5 * j + 3) - 48)))))) := ⟨_, rfl⟩
  rw [← hQ]
  refine zM_mk fun n D => ?_
  show zW n D 206 Q 0 [some (.ref 170), some (.int (Int32.ofInt 1)), some (.int y), none, none, none] [] ph
  have c_0 : ((Int8.ofInt 59).toInt32).toInt = 59 := by decide
  have c_1 : (Int32.ofInt 0).toInt = 0 := by decide
  have c_2 : (Int32.ofInt 1).toInt = 1 := by decide
  have tln := znt (k := ln) (by omega)
  refine w_load (pc' := 1) (v := .ref 170) (m := 1) (ykc_206 (e := (2, .aload_n kF0, 0)) rfl) rfl rfl ?_
  refine w_load (pc' := 2) (v := .int y) (m := 1) (ykc_206 (e := (2, .iload_n kF2, 0)) rfl) rfl rfl ?_
  refine w_cv (as := [.ref 170, .int y]) (r := []) (ykc_206 (e := (6, .invokevirtual 175, 0)) rfl) rfl rfl rfl rfl (zm_begins (ln := ln) (c := 39) (t := t) hS hn14 hn80 gtm hy (by omega)) (fun v2008 ph2009 hv => ?_)
  obtain ⟨rfl, fb, g14, hT⟩ := hv
  show zW n D 206 Q 5 [some (.ref 170), some (.int (Int32.ofInt 1)), some (.int y), none, none, none] [.int (zn ln)] ph2009
  refine w_store (pc' := 6) (L' := [some (.ref 170), some (.int (Int32.ofInt 1)), some (.int y), some (.int (zn ln)), none, none]) (st' := []) (m := 1) (ykc_206 (e := (3, .istore_n kF3, 0)) rfl) rfl rfl ?_
  refine w_load (pc' := 7) (v := .ref 170) (m := 1) (ykc_206 (e := (2, .aload_n kF0, 0)) rfl) rfl rfl ?_
  refine w_alu (pc' := 8) (st' := [.int (Int32.ofInt 0), .ref 170]) (ykc_206 (e := (0, .iconst 0, 0)) rfl) rfl rfl ?_
  refine w_pf (pc' := 11) (ykc_206 (e := (5, .putfield 197, 0)) rfl) rfl rfl (fun ph2011 u2010 => ?_)
  refine w_alu (pc' := 12) (st' := [.int (Int32.ofInt 1)]) (ykc_206 (e := (0, .iconst 1, 0)) rfl) rfl rfl ?_
  refine w_store (pc' := 14) (L' := [some (.ref 170), some (.int (Int32.ofInt 1)), some (.int y), some (.int (zn ln)), some (.int (Int32.ofInt 1)), none]) (st' := []) (m := 2) (ykc_206 (e := (3, .istore 4, 0)) rfl) rfl rfl ?_
  refine w_load (pc' := 15) (v := .int (zn ln)) (m := 1) (ykc_206 (e := (2, .iload_n kF3, 0)) rfl) rfl rfl ?_
  refine w_zle (ykc_206 (e := (4, .ifCond .le 7, 22)) rfl) rfl (fun b2012 => ?_) (fun b2012 => ?_)
  · refine w_alu (pc' := 23) (st' := [.int (Int32.ofInt 0)]) (ykc_206 (e := (0, .iconst 0, 0)) rfl) rfl rfl ?_
    refine w_store (pc' := 25) (L' := [some (.ref 170), some (.int (Int32.ofInt 1)), some (.int y), some (.int (zn ln)), some (.int (Int32.ofInt 1)), some (.int (Int32.ofInt 0))]) (st' := []) (m := 2) (ykc_206 (e := (3, .istore 5, 0)) rfl) rfl rfl ?_
    have e0 : zLa R C rk 4 5 ln t (8 - N) = 0 := if_pos (by omega)
    have f1 : zFr [178] [(170, 14), (170, 15), (170, 16), (170, 17), (170, 20)] ph ph2011 := zFr_trans (zFr_mono fb (by simp) (by simp)) (zFr_st u2010 (Or.inr (by simp)))
    have hfa := zm_fault (is := true) (a := 0) (b := min ln 39) (ln := ln) (t := t) (n9 := ln) (c := 39) (zSh_F f1 (by decide +kernel) hS) (zTm_F (zFr_st u2010 (Or.inr (by simp)) : zFr [] [(170, 20)] _ _) (by simp) (by simp) (by simp) hT) (x := zn ln) (y := y) (by omega) (by omega)
    rw [← zi1] at hfa
    refine w_load (pc' := 27) (v := .int (Int32.ofInt 0)) (m := 2) (ykc_206 (e := (2, .iload 5, 0)) rfl) rfl rfl ?_
    refine w_zeq (ykc_206 (e := (4, .ifCond .eq 44, 71)) rfl) rfl (fun b2013 => ?_) (fun q => by exfalso; omega)
    refine w_load (pc' := 72) (v := .ref 170) (m := 1) (ykc_206 (e := (2, .aload_n kF0, 0)) rfl) rfl rfl ?_
    refine w_load (pc' := 73) (v := .int (zn ln)) (m := 1) (ykc_206 (e := (2, .iload_n kF3, 0)) rfl) rfl rfl ?_
    refine w_load (pc' := 74) (v := .int y) (m := 1) (ykc_206 (e := (2, .iload_n kF2, 0)) rfl) rfl rfl ?_
    refine w_load (pc' := 76) (v := .int (Int32.ofInt 1)) (m := 2) (ykc_206 (e := (2, .iload 4, 0)) rfl) rfl rfl ?_
    refine w_cv (as := [.ref 170, .int (zn ln), .int y, .int (Int32.ofInt 1)]) (r := []) (ykc_206 (e := (6, .invokevirtual 213, 0)) rfl) rfl rfl rfl rfl (hfa) (fun v2014 ph2015 hv => ?_)
    obtain ⟨rfl, zf, rfl, ezf⟩ := hv
    show zW n D 206 Q 79 [some (.ref 170), some (.int (Int32.ofInt 1)), some (.int y), some (.int (zn ln)), some (.int (Int32.ofInt 1)), some (.int (Int32.ofInt 0))] [.int zf] ph2011
    refine w_ret (v := (some (.int zf))) (ykc_206 (e := (7, .ireturn, 0)) rfl) (zr_v rfl) ?_
    rw [hQ]
    refine ⟨f1, _, rfl, Or.inr ⟨by omega, ?_, 0, by omega, u2010.1, fun j hj => absurd hj (Nat.not_lt_zero j)⟩⟩
    rw [ezf]
    unfold zFo
    rw [if_neg (by omega), if_pos ⟨rfl, by omega⟩]
    
  · refine w_alu (pc' := 19) (st' := [.int (Int32.ofInt 1)]) (ykc_206 (e := (0, .iconst 1, 0)) rfl) rfl rfl ?_
    refine w_br (pc' := 23) (st' := [.int (Int32.ofInt 1)]) (ykc_206 (e := (4, .goto 4, 23)) rfl) rfl ?_
    refine w_store (pc' := 25) (L' := [some (.ref 170), some (.int (Int32.ofInt 1)), some (.int y), some (.int (zn ln)), some (.int (Int32.ofInt 1)), some (.int (Int32.ofInt 1))]) (st' := []) (m := 2) (ykc_206 (e := (3, .istore 5, 0)) rfl) rfl rfl ?_
    have e0 : zLa R C rk 4 5 ln t (8 - N) = zLo R C rk 4 5 ln t (8 - N) 9 0 := if_neg (by omega)
    have f1 : zFr [178] [(170, 14), (170, 15), (170, 16), (170, 17), (170, 20)] ph ph2011 := zFr_trans (zFr_mono fb (by simp) (by simp)) (zFr_st u2010 (Or.inr (by simp)))
    have hT1 := zTm_F (zFr_st u2010 (Or.inr (by simp)) : zFr [] [(170, 20)] _ _) (by simp) (by simp) (by simp) hT
    have hl : ∀ (n : Nat), ∀ (l : Nat) (is0 : Int32) (ph2 : pm_H), (l ≤ 7) → (zFr [178] [(170, 14), (170, 15), (170, 16), (170, 17), (170, 20)] ph ph2) → (zTm ph2 (5 * l) (min ln 39) ln t) → (zc ph2 170 20 = some (.int (zn l))) → (l ≤ 8 - N) → (zLa R C rk 4 5 ln t (8 - N) = zLo R C rk 4 5 ln t (8 - N) (9 - l) l) → (∀ j, j < l → zLg R C rk 4 ln t (5 * j) 4 = 4 ∧ zc ph2 178 (3 * j) = some (.int (zn (zLf C t (5 * j)))) ∧ zc ph2 178 (3 * j + 1) = some (.int (zn (t (5 * j + 2) - 48))) ∧ zc ph2 178 (3 * j + 2) = some (.int (zn (t (5 * j + 3) - 48)))) → zW n D 206 Q 25 [some (.ref 170), some (.int (Int32.ofInt 1)), some (.int y), some (.int (zn ln)), some (.int is0), some (.int (Int32.ofInt 1))] [] ph2 := by
      intro n
      induction n using Nat.strongRecOn with
      | ind n ih =>
        intro l is0 ph2 hl7 hf hT h20 hlr ha hg
        have tl := znt (k := l) (by omega)
        have hS2 := zSh_F hf (by decide +kernel) hS
        have hL2 := zMl_F hf (by simp) (by simp) (by simp) (by simp) hL
        have hN2 := (hf.1 170 5 (by decide) (by decide)).trans hN
        have hbl : ∀ p, p < 5 * l + 4 → (p < min ln 39 ↔ p < ln) := fun p hp => by omega
        refine w_load (pc' := 27) (v := .int (Int32.ofInt 1)) (m := 2) (ykc_206 (e := (2, .iload 5, 0)) rfl) rfl rfl ?_
        refine w_zeq (ykc_206 (e := (4, .ifCond .eq 44, 71)) rfl) rfl (fun q => by exfalso; omega) (fun b2016 => ?_)
        refine w_load (pc' := 31) (v := .int (Int32.ofInt 1)) (m := 1) (ykc_206 (e := (2, .iload_n kF1, 0)) rfl) rfl rfl ?_
        refine w_zeq (ykc_206 (e := (4, .ifCond .eq 10, 41)) rfl) rfl (fun q => by exfalso; omega) (fun b2017 => ?_)
        refine w_load (pc' := 35) (v := .ref 170) (m := 1) (ykc_206 (e := (2, .aload_n kF0, 0)) rfl) rfl rfl ?_
        refine w_cv (as := [.ref 170]) (r := []) (ykc_206 (e := (6, .invokevirtual 203, 0)) rfl) rfl rfl rfl rfl (zm_rperson hS2 hL2 hT h20 (by omega) hN2 (by omega)) (fun v2018 ph2019 hv => ?_)
        rcases hv with ⟨fr, ⟨hf8, rfl, hr⟩ | ⟨hf8, hgg, rfl, hr, r20, r0, r1, r2, rl⟩ | ⟨hf8, hgb, rfl, hr⟩⟩
        · show zW n D 206 Q 38 [some (.ref 170), some (.int (Int32.ofInt 1)), some (.int y), some (.int (zn ln)), some (.int is0), some (.int (Int32.ofInt 1))] [.int (zI false)] ph2019
          refine w_br (pc' := 45) (st' := [.int (zI false)]) (ykc_206 (e := (4, .goto 7, 45)) rfl) rfl ?_
          refine w_store (pc' := 47) (L' := [some (.ref 170), some (.int (Int32.ofInt 1)), some (.int y), some (.int (zn ln)), some (.int (zI false)), some (.int (Int32.ofInt 1))]) (st' := []) (m := 2) (ykc_206 (e := (3, .istore 4, 0)) rfl) rfl rfl ?_
          refine w_load (pc' := 49) (v := .int (zI false)) (m := 2) (ykc_206 (e := (2, .iload 4, 0)) rfl) rfl rfl ?_
          refine w_beq (ykc_206 (e := (4, .ifCond .eq 16, 65)) rfl) rfl (fun b2020 => ?_) (fun q => absurd q (by decide))
          refine w_alu (pc' := 66) (st' := [.int (Int32.ofInt 0)]) (ykc_206 (e := (0, .iconst 0, 0)) rfl) rfl rfl ?_
          refine w_store (pc' := 68) (L' := [some (.ref 170), some (.int (Int32.ofInt 1)), some (.int y), some (.int (zn ln)), some (.int (zI false)), some (.int (Int32.ofInt 0))]) (st' := []) (m := 2) (ykc_206 (e := (3, .istore 5, 0)) rfl) rfl rfl ?_
          refine w_gb (ykc_206 (e := (4, .goto (-43), 25)) rfl) (fun k2021 hk2021 => ?_)
          refine w_load (pc' := 27) (v := .int (Int32.ofInt 0)) (m := 2) (ykc_206 (e := (2, .iload 5, 0)) rfl) rfl rfl ?_
          refine w_zeq (ykc_206 (e := (4, .ifCond .eq 44, 71)) rfl) rfl (fun b2022 => ?_) (fun q => by exfalso; omega)
          refine w_load (pc' := 72) (v := .ref 170) (m := 1) (ykc_206 (e := (2, .aload_n kF0, 0)) rfl) rfl rfl ?_
          refine w_load (pc' := 73) (v := .int (zn ln)) (m := 1) (ykc_206 (e := (2, .iload_n kF3, 0)) rfl) rfl rfl ?_
          refine w_load (pc' := 74) (v := .int y) (m := 1) (ykc_206 (e := (2, .iload_n kF2, 0)) rfl) rfl rfl ?_
          refine w_load (pc' := 76) (v := .int (zI false)) (m := 2) (ykc_206 (e := (2, .iload 4, 0)) rfl) rfl rfl ?_
          refine w_cv (as := [.ref 170, .int (zn ln), .int y, .int (zI false)]) (r := []) (ykc_206 (e := (6, .invokevirtual 213, 0)) rfl) rfl rfl rfl rfl (zm_fault (is := false) (a := 5 * l) (b := min ln 39) (ln := ln) (t := t) (n9 := ln) (c := 39) (zSh_F fr (by decide +kernel) hS2) hr (by omega) (by omega)) (fun v2023 ph2024 hv => ?_)
          obtain ⟨rfl, zf, rfl, ezf⟩ := hv
          show zW k2021 D 206 Q 79 [some (.ref 170), some (.int (Int32.ofInt 1)), some (.int y), some (.int (zn ln)), some (.int (zI false)), some (.int (Int32.ofInt 0))] [.int zf] ph2019
          refine w_ret (v := (some (.int zf))) (ykc_206 (e := (7, .ireturn, 0)) rfl) (zr_v rfl) ?_
          have h8 := ha.trans (zLo_0 (by omega) (show l = 8 - N by omega))
          have hab := hr.2.2.1
          rw [hQ]
          refine ⟨zFr_trans hf (zFr_mono fr (by simp) (by simp)), _, rfl, Or.inl ⟨by omega, ?_⟩⟩
          rw [ezf, h8]
          unfold zFo
          rw [if_neg (fun q => by rcases q.2 with q2 | q2; exact absurd q2.1 (by decide); omega), if_neg (fun q => absurd q.1 (by decide))]
        · have hgc : zLg R C rk 4 (min ln 39) t (5 * l) 4 = zLg R C rk 4 ln t (5 * l) 4 := zLg_b (fun i hi => hbl _ (by omega))
          rw [hgc] at hgg
          have hlast := (zLk_d (zLg_a hgg (4 - 1) (by omega))).1
          have hgl : ∀ j, j < l + 1 → zLg R C rk 4 ln t (5 * j) 4 = 4 ∧ zc ph2019 178 (3 * j) = some (.int (zn (zLf C t (5 * j)))) ∧ zc ph2019 178 (3 * j + 1) = some (.int (zn (t (5 * j + 2) - 48))) ∧ zc ph2019 178 (3 * j + 2) = some (.int (zn (t (5 * j + 3) - 48))) := fun j hj => by
            by_cases e : j = l
            · subst e; exact ⟨hgg, r0, r1, r2⟩
            · obtain ⟨g1, g2, g3, g4⟩ := hg j (by omega)
              exact ⟨g1, (rl _ (by omega)).trans g2, (rl _ (by omega)).trans g3, (rl _ (by omega)).trans g4⟩
          show zW n D 206 Q 38 [some (.ref 170), some (.int (Int32.ofInt 1)), some (.int y), some (.int (zn ln)), some (.int is0), some (.int (Int32.ofInt 1))] [.int (zI true)] ph2019
          refine w_br (pc' := 45) (st' := [.int (zI true)]) (ykc_206 (e := (4, .goto 7, 45)) rfl) rfl ?_
          refine w_store (pc' := 47) (L' := [some (.ref 170), some (.int (Int32.ofInt 1)), some (.int y), some (.int (zn ln)), some (.int (zI true)), some (.int (Int32.ofInt 1))]) (st' := []) (m := 2) (ykc_206 (e := (3, .istore 4, 0)) rfl) rfl rfl ?_
          refine w_load (pc' := 49) (v := .int (zI true)) (m := 2) (ykc_206 (e := (2, .iload 4, 0)) rfl) rfl rfl ?_
          refine w_beq (ykc_206 (e := (4, .ifCond .eq 16, 65)) rfl) rfl (fun q => absurd q (by decide)) (fun b2025 => ?_)
          refine w_load (pc' := 53) (v := .ref 170) (m := 1) (ykc_206 (e := (2, .aload_n kF0, 0)) rfl) rfl rfl ?_
          refine w_push (pc' := 55) (v := .int ((Int8.ofInt 59).toInt32)) (m := 2) (ykc_206 (e := (1, .bipush 59, 0)) rfl) rfl rfl ?_
          refine w_cv (as := [.ref 170, .int ((Int8.ofInt 59).toInt32)]) (r := []) (ykc_206 (e := (6, .invokevirtual 209, 0)) rfl) rfl rfl rfl rfl (zm_takes (zSh_F fr (by decide +kernel) hS2) hr (c := 59) (by omega)) (fun v2026 ph2027 hv => ?_)
          rcases hv with ⟨fs, ⟨hc5, rfl, hts⟩ | ⟨hc5, rfl, hts⟩⟩
          · show zW n D 206 Q 58 [some (.ref 170), some (.int (Int32.ofInt 1)), some (.int y), some (.int (zn ln)), some (.int (zI true)), some (.int (Int32.ofInt 1))] [.int (zI true)] ph2027
            refine w_beq (ykc_206 (e := (4, .ifCond .eq 7, 65)) rfl) rfl (fun q => absurd q (by decide)) (fun b2028 => ?_)
            refine w_alu (pc' := 62) (st' := [.int (Int32.ofInt 1)]) (ykc_206 (e := (0, .iconst 1, 0)) rfl) rfl rfl ?_
            refine w_br (pc' := 66) (st' := [.int (Int32.ofInt 1)]) (ykc_206 (e := (4, .goto 4, 66)) rfl) rfl ?_
            refine w_store (pc' := 68) (L' := [some (.ref 170), some (.int (Int32.ofInt 1)), some (.int y), some (.int (zn ln)), some (.int (zI true)), some (.int (Int32.ofInt 1))]) (st' := []) (m := 2) (ykc_206 (e := (3, .istore 5, 0)) rfl) rfl rfl ?_
            refine w_gb (ykc_206 (e := (4, .goto (-43), 25)) rfl) (fun k2029 hk2029 => ?_)
            have h8 := ha.trans (zLo_4 (by omega) (by omega) hgg (by omega) (by omega))
            rw [show 5 * l + 4 + 1 = 5 * (l + 1) by omega] at hts
            exact ih k2029 hk2029 (l + 1) _ _ (by omega) (zFr_trans hf (zFr_trans (zFr_mono fr (by simp) (by simp)) (zFr_mono fs (by simp) (by simp)))) hts ((fs.1 170 20 (by decide) (by decide)).trans r20) (by omega) h8 (fun j hj => by
              obtain ⟨g1, g2, g3, g4⟩ := hgl j hj
              exact ⟨g1, (fs.1 178 _ (by decide) (by simp)).trans g2, (fs.1 178 _ (by decide) (by simp)).trans g3, (fs.1 178 _ (by decide) (by simp)).trans g4⟩)
          · show zW n D 206 Q 58 [some (.ref 170), some (.int (Int32.ofInt 1)), some (.int y), some (.int (zn ln)), some (.int (zI true)), some (.int (Int32.ofInt 1))] [.int (zI false)] ph2027
            refine w_beq (ykc_206 (e := (4, .ifCond .eq 7, 65)) rfl) rfl (fun b2030 => ?_) (fun q => absurd q (by decide))
            refine w_alu (pc' := 66) (st' := [.int (Int32.ofInt 0)]) (ykc_206 (e := (0, .iconst 0, 0)) rfl) rfl rfl ?_
            refine w_store (pc' := 68) (L' := [some (.ref 170), some (.int (Int32.ofInt 1)), some (.int y), some (.int (zn ln)), some (.int (zI true)), some (.int (Int32.ofInt 0))]) (st' := []) (m := 2) (ykc_206 (e := (3, .istore 5, 0)) rfl) rfl rfl ?_
            refine w_gb (ykc_206 (e := (4, .goto (-43), 25)) rfl) (fun k2031 hk2031 => ?_)
            refine w_load (pc' := 27) (v := .int (Int32.ofInt 0)) (m := 2) (ykc_206 (e := (2, .iload 5, 0)) rfl) rfl rfl ?_
            refine w_zeq (ykc_206 (e := (4, .ifCond .eq 44, 71)) rfl) rfl (fun b2032 => ?_) (fun q => by exfalso; omega)
            refine w_load (pc' := 72) (v := .ref 170) (m := 1) (ykc_206 (e := (2, .aload_n kF0, 0)) rfl) rfl rfl ?_
            refine w_load (pc' := 73) (v := .int (zn ln)) (m := 1) (ykc_206 (e := (2, .iload_n kF3, 0)) rfl) rfl rfl ?_
            refine w_load (pc' := 74) (v := .int y) (m := 1) (ykc_206 (e := (2, .iload_n kF2, 0)) rfl) rfl rfl ?_
            refine w_load (pc' := 76) (v := .int (zI true)) (m := 2) (ykc_206 (e := (2, .iload 4, 0)) rfl) rfl rfl ?_
            refine w_cv (as := [.ref 170, .int (zn ln), .int y, .int (zI true)]) (r := []) (ykc_206 (e := (6, .invokevirtual 213, 0)) rfl) rfl rfl rfl rfl (zm_fault (is := true) (a := 5 * l + 4) (b := min ln 39) (ln := ln) (t := t) (n9 := ln) (c := 39) (zSh_F fs (by decide +kernel) (zSh_F fr (by decide +kernel) hS2)) hts (by omega) (by omega)) (fun v2033 ph2034 hv => ?_)
            obtain ⟨rfl, zf, rfl, ezf⟩ := hv
            show zW k2031 D 206 Q 79 [some (.ref 170), some (.int (Int32.ofInt 1)), some (.int y), some (.int (zn ln)), some (.int (zI true)), some (.int (Int32.ofInt 0))] [.int zf] ph2027
            refine w_ret (v := (some (.int zf))) (ykc_206 (e := (7, .ireturn, 0)) rfl) (zr_v rfl) ?_
            have f9 : zFr [178] [(170, 14), (170, 15), (170, 16), (170, 17), (170, 20)] ph ph2027 := zFr_trans hf (zFr_trans (zFr_mono fr (by simp) (by simp)) (zFr_mono fs (by simp) (by simp)))
            have hab := hts.2.2.1
            rw [hQ]
            refine ⟨f9, _, rfl, ?_⟩
            rw [ezf]
            unfold zFo
            by_cases e : 5 * l + 4 = ln
            · have h8 := ha.trans (zLo_2 (by omega) (by omega) hgg e)
              rw [if_neg (by omega), if_pos ⟨rfl, by omega⟩]
              exact Or.inr ⟨by omega, rfl, l + 1, by omega, (fs.1 170 20 (by decide) (by decide)).trans r20, fun j hj => by
                obtain ⟨g1, g2, g3, g4⟩ := hgl j hj
                exact ⟨g1, (fs.1 178 _ (by decide) (by simp)).trans g2, (fs.1 178 _ (by decide) (by simp)).trans g3, (fs.1 178 _ (by decide) (by simp)).trans g4⟩⟩
            · have h4 : l = 7 ∨ t (5 * l + 4) ≠ 59 := by omega
              have h8 := ha.trans (zLo_3 (by omega) (by omega) hgg e h4)
              refine Or.inl ⟨by omega, ?_⟩
              rw [h8]
              by_cases e2 : 5 * l + 4 = min ln 39
              · rw [if_pos ⟨by omega, Or.inl ⟨rfl, e2⟩⟩]
                omega
              · rw [if_neg (fun q => by rcases q.2 with q2 | q2; exact e2 q2.2; omega), if_neg (fun q => e2 q.2)]
          
        · have hgc : zLg R C rk 4 (min ln 39) t (5 * l) 4 = zLg R C rk 4 ln t (5 * l) 4 := zLg_b (fun i hi => hbl _ (by omega))
          rw [hgc] at hgb hr
          show zW n D 206 Q 38 [some (.ref 170), some (.int (Int32.ofInt 1)), some (.int y), some (.int (zn ln)), some (.int is0), some (.int (Int32.ofInt 1))] [.int (zI false)] ph2019
          refine w_br (pc' := 45) (st' := [.int (zI false)]) (ykc_206 (e := (4, .goto 7, 45)) rfl) rfl ?_
          refine w_store (pc' := 47) (L' := [some (.ref 170), some (.int (Int32.ofInt 1)), some (.int y), some (.int (zn ln)), some (.int (zI false)), some (.int (Int32.ofInt 1))]) (st' := []) (m := 2) (ykc_206 (e := (3, .istore 4, 0)) rfl) rfl rfl ?_
          refine w_load (pc' := 49) (v := .int (zI false)) (m := 2) (ykc_206 (e := (2, .iload 4, 0)) rfl) rfl rfl ?_
          refine w_beq (ykc_206 (e := (4, .ifCond .eq 16, 65)) rfl) rfl (fun b2035 => ?_) (fun q => absurd q (by decide))
          refine w_alu (pc' := 66) (st' := [.int (Int32.ofInt 0)]) (ykc_206 (e := (0, .iconst 0, 0)) rfl) rfl rfl ?_
          refine w_store (pc' := 68) (L' := [some (.ref 170), some (.int (Int32.ofInt 1)), some (.int y), some (.int (zn ln)), some (.int (zI false)), some (.int (Int32.ofInt 0))]) (st' := []) (m := 2) (ykc_206 (e := (3, .istore 5, 0)) rfl) rfl rfl ?_
          refine w_gb (ykc_206 (e := (4, .goto (-43), 25)) rfl) (fun k2036 hk2036 => ?_)
          refine w_load (pc' := 27) (v := .int (Int32.ofInt 0)) (m := 2) (ykc_206 (e := (2, .iload 5, 0)) rfl) rfl rfl ?_
          refine w_zeq (ykc_206 (e := (4, .ifCond .eq 44, 71)) rfl) rfl (fun b2037 => ?_) (fun q => by exfalso; omega)
          refine w_load (pc' := 72) (v := .ref 170) (m := 1) (ykc_206 (e := (2, .aload_n kF0, 0)) rfl) rfl rfl ?_
          refine w_load (pc' := 73) (v := .int (zn ln)) (m := 1) (ykc_206 (e := (2, .iload_n kF3, 0)) rfl) rfl rfl ?_
          refine w_load (pc' := 74) (v := .int y) (m := 1) (ykc_206 (e := (2, .iload_n kF2, 0)) rfl) rfl rfl ?_
          refine w_load (pc' := 76) (v := .int (zI false)) (m := 2) (ykc_206 (e := (2, .iload 4, 0)) rfl) rfl rfl ?_
          refine w_cv (as := [.ref 170, .int (zn ln), .int y, .int (zI false)]) (r := []) (ykc_206 (e := (6, .invokevirtual 213, 0)) rfl) rfl rfl rfl rfl (zm_fault (is := false) (a := 5 * l + zLg R C rk 4 ln t (5 * l) 4) (b := min ln 39) (ln := ln) (t := t) (n9 := ln) (c := 39) (zSh_F fr (by decide +kernel) hS2) hr (by omega) (by omega)) (fun v2038 ph2039 hv => ?_)
          obtain ⟨rfl, zf, rfl, ezf⟩ := hv
          show zW k2036 D 206 Q 79 [some (.ref 170), some (.int (Int32.ofInt 1)), some (.int y), some (.int (zn ln)), some (.int (zI false)), some (.int (Int32.ofInt 0))] [.int zf] ph2019
          refine w_ret (v := (some (.int zf))) (ykc_206 (e := (7, .ireturn, 0)) rfl) (zr_v rfl) ?_
          have h8 := ha.trans (zLo_1 (by omega) (by omega) hgb)
          rw [hQ]
          refine ⟨zFr_trans hf (zFr_mono fr (by simp) (by simp)), _, rfl, Or.inl ⟨by omega, ?_⟩⟩
          rw [ezf, h8]
          unfold zFo
          rw [if_neg (fun q => by rcases q.2 with q2 | q2; exact absurd q2.1 (by decide); omega), if_neg (fun q => absurd q.1 (by decide))]
        
    exact hl n 0 _ ph2011 (Nat.zero_le _) f1 hT1 u2010.1 (Nat.zero_le _) e0 (fun j hj => absurd hj (Nat.not_lt_zero j))
theorem zm_rlines2 {ph : pm_H} {R C ln N : Nat} {rk : Nat → Bool} {t : Nat → Nat} {y : Int32} (hS : zSh ph) (hL : zMl ph R C rk) (hn14 : zc ph 170 14 = some (.int (zn ln))) (hn80 : ln ≤ 80) (gtm : ∀ i, i < ln → zc ph 176 i = some (.int (zn (t i))) ∧ t i < 256) (hN : zc ph 170 6 = some (.int (zn N))) (hN8 : N ≤ 8) (hy : y.toInt = 23) : zM 206 [.ref 170, .int (Int32.ofInt 0), .int y] ph (fun v0 q => zFr [178] [(170, 14), (170, 15), (170, 16), (170, 17), (170, 20)] ph q ∧ ∃ z : Int32, v0 = some (.int z) ∧ ((zLa R C rk 2 3 ln t (8 - N) < 0 ∧ z.toInt = zLa R C rk 2 3 ln t (8 - N)) ∨ (0 ≤ zLa R C rk 2 3 ln t (8 - N) ∧ z.toInt = 0 ∧ ∃ k : Nat, (k : Int) = zLa R C rk 2 3 ln t (8 - N) ∧ zc q 170 20 = some (.int (zn k)) ∧ ∀ j, j < k → zLg R C rk 2 ln t (3 * j) 2 = 2 ∧ zc q 178 j = some (.int (zn (zLf C t (3 * j))))))) := by
  obtain ⟨Q, hQ⟩ : ∃ Q : Option Value → pm_H → Prop, Q = (fun v0 q => zFr [178] [(170, 14), (170, 15), (170, 16), (170, 17), (170, 20)] ph q ∧ ∃ z : Int32, v0 = some (.int z) ∧ ((zLa R C rk 2 3 ln t (8 - N) < 0 ∧ z.toInt = zLa R C rk 2 3 ln t (8 - N)) ∨ (0 ≤ zLa R C rk 2 3 ln t (8 - N) ∧ z.toInt = 0 ∧ ∃ k : Nat, (k : Int) = zLa R C rk 2 3 ln t (8 - N) ∧ zc q 170 20 = some (.int (zn k)) ∧ ∀ j, j < k → zLg R C rk 2 ln t (3 * j) 2 = 2 ∧ zc q 178 j = some (.int (zn (zLf C t (3 * j))))))) := ⟨_, rfl⟩
  rw [← hQ]
  refine zM_mk fun n D => ?_
  show zW n D 206 Q 0 [some (.ref 170), some (.int (Int32.ofInt 0)), some (.int y), none, none, none] [] ph
  have c_0 : ((Int8.ofInt 59).toInt32).toInt = 59 := by decide
  have c_1 : (Int32.ofInt 0).toInt = 0 := by decide
  have c_2 : (Int32.ofInt 1).toInt = 1 := by decide
  have tln := znt (k := ln) (by omega)
  refine w_load (pc' := 1) (v := .ref 170) (m := 1) (ykc_206 (e := (2, .aload_n kF0, 0)) rfl) rfl rfl ?_
  refine w_load (pc' := 2) (v := .int y) (m := 1) (ykc_206 (e := (2, .iload_n kF2, 0)) rfl) rfl rfl ?_
  refine w_cv (as := [.ref 170, .int y]) (r := []) (ykc_206 (e := (6, .invokevirtual 175, 0)) rfl) rfl rfl rfl rfl (zm_begins (ln := ln) (c := 23) (t := t) hS hn14 hn80 gtm hy (by omega)) (fun v2040 ph2041 hv => ?_)
  obtain ⟨rfl, fb, g14, hT⟩ := hv
  show zW n D 206 Q 5 [some (.ref 170), some (.int (Int32.ofInt 0)), some (.int y), none, none, none] [.int (zn ln)] ph2041
  refine w_store (pc' := 6) (L' := [some (.ref 170), some (.int (Int32.ofInt 0)), some (.int y), some (.int (zn ln)), none, none]) (st' := []) (m := 1) (ykc_206 (e := (3, .istore_n kF3, 0)) rfl) rfl rfl ?_
  refine w_load (pc' := 7) (v := .ref 170) (m := 1) (ykc_206 (e := (2, .aload_n kF0, 0)) rfl) rfl rfl ?_
  refine w_alu (pc' := 8) (st' := [.int (Int32.ofInt 0), .ref 170]) (ykc_206 (e := (0, .iconst 0, 0)) rfl) rfl rfl ?_
  refine w_pf (pc' := 11) (ykc_206 (e := (5, .putfield 197, 0)) rfl) rfl rfl (fun ph2043 u2042 => ?_)
  refine w_alu (pc' := 12) (st' := [.int (Int32.ofInt 1)]) (ykc_206 (e := (0, .iconst 1, 0)) rfl) rfl rfl ?_
  refine w_store (pc' := 14) (L' := [some (.ref 170), some (.int (Int32.ofInt 0)), some (.int y), some (.int (zn ln)), some (.int (Int32.ofInt 1)), none]) (st' := []) (m := 2) (ykc_206 (e := (3, .istore 4, 0)) rfl) rfl rfl ?_
  refine w_load (pc' := 15) (v := .int (zn ln)) (m := 1) (ykc_206 (e := (2, .iload_n kF3, 0)) rfl) rfl rfl ?_
  refine w_zle (ykc_206 (e := (4, .ifCond .le 7, 22)) rfl) rfl (fun b2044 => ?_) (fun b2044 => ?_)
  · refine w_alu (pc' := 23) (st' := [.int (Int32.ofInt 0)]) (ykc_206 (e := (0, .iconst 0, 0)) rfl) rfl rfl ?_
    refine w_store (pc' := 25) (L' := [some (.ref 170), some (.int (Int32.ofInt 0)), some (.int y), some (.int (zn ln)), some (.int (Int32.ofInt 1)), some (.int (Int32.ofInt 0))]) (st' := []) (m := 2) (ykc_206 (e := (3, .istore 5, 0)) rfl) rfl rfl ?_
    have e0 : zLa R C rk 2 3 ln t (8 - N) = 0 := if_pos (by omega)
    have f1 : zFr [178] [(170, 14), (170, 15), (170, 16), (170, 17), (170, 20)] ph ph2043 := zFr_trans (zFr_mono fb (by simp) (by simp)) (zFr_st u2042 (Or.inr (by simp)))
    have hfa := zm_fault (is := true) (a := 0) (b := min ln 23) (ln := ln) (t := t) (n9 := ln) (c := 23) (zSh_F f1 (by decide +kernel) hS) (zTm_F (zFr_st u2042 (Or.inr (by simp)) : zFr [] [(170, 20)] _ _) (by simp) (by simp) (by simp) hT) (x := zn ln) (y := y) (by omega) (by omega)
    rw [← zi1] at hfa
    refine w_load (pc' := 27) (v := .int (Int32.ofInt 0)) (m := 2) (ykc_206 (e := (2, .iload 5, 0)) rfl) rfl rfl ?_
    refine w_zeq (ykc_206 (e := (4, .ifCond .eq 44, 71)) rfl) rfl (fun b2045 => ?_) (fun q => by exfalso; omega)
    refine w_load (pc' := 72) (v := .ref 170) (m := 1) (ykc_206 (e := (2, .aload_n kF0, 0)) rfl) rfl rfl ?_
    refine w_load (pc' := 73) (v := .int (zn ln)) (m := 1) (ykc_206 (e := (2, .iload_n kF3, 0)) rfl) rfl rfl ?_
    refine w_load (pc' := 74) (v := .int y) (m := 1) (ykc_206 (e := (2, .iload_n kF2, 0)) rfl) rfl rfl ?_
    refine w_load (pc' := 76) (v := .int (Int32.ofInt 1)) (m := 2) (ykc_206 (e := (2, .iload 4, 0)) rfl) rfl rfl ?_
    refine w_cv (as := [.ref 170, .int (zn ln), .int y, .int (Int32.ofInt 1)]) (r := []) (ykc_206 (e := (6, .invokevirtual 213, 0)) rfl) rfl rfl rfl rfl (hfa) (fun v2046 ph2047 hv => ?_)
    obtain ⟨rfl, zf, rfl, ezf⟩ := hv
    show zW n D 206 Q 79 [some (.ref 170), some (.int (Int32.ofInt 0)), some (.int y), some (.int (zn ln)), some (.int (Int32.ofInt 1)), some (.int (Int32.ofInt 0))] [.int zf] ph2043
    refine w_ret (v := (some (.int zf))) (ykc_206 (e := (7, .ireturn, 0)) rfl) (zr_v rfl) ?_
    rw [hQ]
    refine ⟨f1, _, rfl, Or.inr ⟨by omega, ?_, 0, by omega, u2042.1, fun j hj => absurd hj (Nat.not_lt_zero j)⟩⟩
    rw [ezf]
    unfold zFo
    rw [if_neg (by omega), if_pos ⟨rfl, by omega⟩]
    
  · refine w_alu (pc' := 19) (st' := [.int (Int32.ofInt 1)]) (ykc_206 (e := (0, .iconst 1, 0)) rfl) rfl rfl ?_
    refine w_br (pc' := 23) (st' := [.int (Int32.ofInt 1)]) (ykc_206 (e := (4, .goto 4, 23)) rfl) rfl ?_
    refine w_store (pc' := 25) (L' := [some (.ref 170), some (.int (Int32.ofInt 0)), some (.int y), some (.int (zn ln)), some (.int (Int32.ofInt 1)), some (.int (Int32.ofInt 1))]) (st' := []) (m := 2) (ykc_206 (e := (3, .istore 5, 0)) rfl) rfl rfl ?_
    have e0 : zLa R C rk 2 3 ln t (8 - N) = zLo R C rk 2 3 ln t (8 - N) 9 0 := if_neg (by omega)
    have f1 : zFr [178] [(170, 14), (170, 15), (170, 16), (170, 17), (170, 20)] ph ph2043 := zFr_trans (zFr_mono fb (by simp) (by simp)) (zFr_st u2042 (Or.inr (by simp)))
    have hT1 := zTm_F (zFr_st u2042 (Or.inr (by simp)) : zFr [] [(170, 20)] _ _) (by simp) (by simp) (by simp) hT
    have hl : ∀ (n : Nat), ∀ (l : Nat) (is0 : Int32) (ph2 : pm_H), (l ≤ 7) → (zFr [178] [(170, 14), (170, 15), (170, 16), (170, 17), (170, 20)] ph ph2) → (zTm ph2 (3 * l) (min ln 23) ln t) → (zc ph2 170 20 = some (.int (zn l))) → (l ≤ 8 - N) → (zLa R C rk 2 3 ln t (8 - N) = zLo R C rk 2 3 ln t (8 - N) (9 - l) l) → (∀ j, j < l → zLg R C rk 2 ln t (3 * j) 2 = 2 ∧ zc ph2 178 j = some (.int (zn (zLf C t (3 * j))))) → zW n D 206 Q 25 [some (.ref 170), some (.int (Int32.ofInt 0)), some (.int y), some (.int (zn ln)), some (.int is0), some (.int (Int32.ofInt 1))] [] ph2 := by
      intro n
      induction n using Nat.strongRecOn with
      | ind n ih =>
        intro l is0 ph2 hl7 hf hT h20 hlr ha hg
        have tl := znt (k := l) (by omega)
        have hS2 := zSh_F hf (by decide +kernel) hS
        have hL2 := zMl_F hf (by simp) (by simp) (by simp) (by simp) hL
        have hN2 := (hf.1 170 6 (by decide) (by decide)).trans hN
        have hbl : ∀ p, p < 3 * l + 2 → (p < min ln 23 ↔ p < ln) := fun p hp => by omega
        refine w_load (pc' := 27) (v := .int (Int32.ofInt 1)) (m := 2) (ykc_206 (e := (2, .iload 5, 0)) rfl) rfl rfl ?_
        refine w_zeq (ykc_206 (e := (4, .ifCond .eq 44, 71)) rfl) rfl (fun q => by exfalso; omega) (fun b2048 => ?_)
        refine w_load (pc' := 31) (v := .int (Int32.ofInt 0)) (m := 1) (ykc_206 (e := (2, .iload_n kF1, 0)) rfl) rfl rfl ?_
        refine w_zeq (ykc_206 (e := (4, .ifCond .eq 10, 41)) rfl) rfl (fun b2049 => ?_) (fun q => by exfalso; omega)
        refine w_load (pc' := 42) (v := .ref 170) (m := 1) (ykc_206 (e := (2, .aload_n kF0, 0)) rfl) rfl rfl ?_
        refine w_cv (as := [.ref 170]) (r := []) (ykc_206 (e := (6, .invokevirtual 206, 0)) rfl) rfl rfl rfl rfl (zm_rthing hS2 hL2 hT h20 (by omega) hN2 (by omega)) (fun v2050 ph2051 hv => ?_)
        rcases hv with ⟨fr, ⟨hf8, rfl, hr⟩ | ⟨hf8, hgg, rfl, hr, r20, r0, rl⟩ | ⟨hf8, hgb, rfl, hr⟩⟩
        · show zW n D 206 Q 45 [some (.ref 170), some (.int (Int32.ofInt 0)), some (.int y), some (.int (zn ln)), some (.int is0), some (.int (Int32.ofInt 1))] [.int (zI false)] ph2051
          refine w_store (pc' := 47) (L' := [some (.ref 170), some (.int (Int32.ofInt 0)), some (.int y), some (.int (zn ln)), some (.int (zI false)), some (.int (Int32.ofInt 1))]) (st' := []) (m := 2) (ykc_206 (e := (3, .istore 4, 0)) rfl) rfl rfl ?_
          refine w_load (pc' := 49) (v := .int (zI false)) (m := 2) (ykc_206 (e := (2, .iload 4, 0)) rfl) rfl rfl ?_
          refine w_beq (ykc_206 (e := (4, .ifCond .eq 16, 65)) rfl) rfl (fun b2052 => ?_) (fun q => absurd q (by decide))
          refine w_alu (pc' := 66) (st' := [.int (Int32.ofInt 0)]) (ykc_206 (e := (0, .iconst 0, 0)) rfl) rfl rfl ?_
          refine w_store (pc' := 68) (L' := [some (.ref 170), some (.int (Int32.ofInt 0)), some (.int y), some (.int (zn ln)), some (.int (zI false)), some (.int (Int32.ofInt 0))]) (st' := []) (m := 2) (ykc_206 (e := (3, .istore 5, 0)) rfl) rfl rfl ?_
          refine w_gb (ykc_206 (e := (4, .goto (-43), 25)) rfl) (fun k2053 hk2053 => ?_)
          refine w_load (pc' := 27) (v := .int (Int32.ofInt 0)) (m := 2) (ykc_206 (e := (2, .iload 5, 0)) rfl) rfl rfl ?_
          refine w_zeq (ykc_206 (e := (4, .ifCond .eq 44, 71)) rfl) rfl (fun b2054 => ?_) (fun q => by exfalso; omega)
          refine w_load (pc' := 72) (v := .ref 170) (m := 1) (ykc_206 (e := (2, .aload_n kF0, 0)) rfl) rfl rfl ?_
          refine w_load (pc' := 73) (v := .int (zn ln)) (m := 1) (ykc_206 (e := (2, .iload_n kF3, 0)) rfl) rfl rfl ?_
          refine w_load (pc' := 74) (v := .int y) (m := 1) (ykc_206 (e := (2, .iload_n kF2, 0)) rfl) rfl rfl ?_
          refine w_load (pc' := 76) (v := .int (zI false)) (m := 2) (ykc_206 (e := (2, .iload 4, 0)) rfl) rfl rfl ?_
          refine w_cv (as := [.ref 170, .int (zn ln), .int y, .int (zI false)]) (r := []) (ykc_206 (e := (6, .invokevirtual 213, 0)) rfl) rfl rfl rfl rfl (zm_fault (is := false) (a := 3 * l) (b := min ln 23) (ln := ln) (t := t) (n9 := ln) (c := 23) (zSh_F fr (by decide +kernel) hS2) hr (by omega) (by omega)) (fun v2055 ph2056 hv => ?_)
          obtain ⟨rfl, zf, rfl, ezf⟩ := hv
          show zW k2053 D 206 Q 79 [some (.ref 170), some (.int (Int32.ofInt 0)), some (.int y), some (.int (zn ln)), some (.int (zI false)), some (.int (Int32.ofInt 0))] [.int zf] ph2051
          refine w_ret (v := (some (.int zf))) (ykc_206 (e := (7, .ireturn, 0)) rfl) (zr_v rfl) ?_
          have h8 := ha.trans (zLo_0 (by omega) (show l = 8 - N by omega))
          have hab := hr.2.2.1
          rw [hQ]
          refine ⟨zFr_trans hf (zFr_mono fr (by simp) (by simp)), _, rfl, Or.inl ⟨by omega, ?_⟩⟩
          rw [ezf, h8]
          unfold zFo
          rw [if_neg (fun q => by rcases q.2 with q2 | q2; exact absurd q2.1 (by decide); omega), if_neg (fun q => absurd q.1 (by decide))]
        · have hgc : zLg R C rk 2 (min ln 23) t (3 * l) 2 = zLg R C rk 2 ln t (3 * l) 2 := zLg_b (fun i hi => hbl _ (by omega))
          rw [hgc] at hgg
          have hlast := (zLk_d (zLg_a hgg (2 - 1) (by omega))).1
          have hgl : ∀ j, j < l + 1 → zLg R C rk 2 ln t (3 * j) 2 = 2 ∧ zc ph2051 178 j = some (.int (zn (zLf C t (3 * j)))) := fun j hj => by
            by_cases e : j = l
            · subst e; exact ⟨hgg, r0⟩
            · obtain ⟨g1, g2⟩ := hg j (by omega)
              exact ⟨g1, (rl _ (by omega)).trans g2⟩
          show zW n D 206 Q 45 [some (.ref 170), some (.int (Int32.ofInt 0)), some (.int y), some (.int (zn ln)), some (.int is0), some (.int (Int32.ofInt 1))] [.int (zI true)] ph2051
          refine w_store (pc' := 47) (L' := [some (.ref 170), some (.int (Int32.ofInt 0)), some (.int y), some (.int (zn ln)), some (.int (zI true)), some (.int (Int32.ofInt 1))]) (st' := []) (m := 2) (ykc_206 (e := (3, .istore 4, 0)) rfl) rfl rfl ?_
          refine w_load (pc' := 49) (v := .int (zI true)) (m := 2) (ykc_206 (e := (2, .iload 4, 0)) rfl) rfl rfl ?_
          refine w_beq (ykc_206 (e := (4, .ifCond .eq 16, 65)) rfl) rfl (fun q => absurd q (by decide)) (fun b2057 => ?_)
          refine w_load (pc' := 53) (v := .ref 170) (m := 1) (ykc_206 (e := (2, .aload_n kF0, 0)) rfl) rfl rfl ?_
          refine w_push (pc' := 55) (v := .int ((Int8.ofInt 59).toInt32)) (m := 2) (ykc_206 (e := (1, .bipush 59, 0)) rfl) rfl rfl ?_
          refine w_cv (as := [.ref 170, .int ((Int8.ofInt 59).toInt32)]) (r := []) (ykc_206 (e := (6, .invokevirtual 209, 0)) rfl) rfl rfl rfl rfl (zm_takes (zSh_F fr (by decide +kernel) hS2) hr (c := 59) (by omega)) (fun v2058 ph2059 hv => ?_)
          rcases hv with ⟨fs, ⟨hc5, rfl, hts⟩ | ⟨hc5, rfl, hts⟩⟩
          · show zW n D 206 Q 58 [some (.ref 170), some (.int (Int32.ofInt 0)), some (.int y), some (.int (zn ln)), some (.int (zI true)), some (.int (Int32.ofInt 1))] [.int (zI true)] ph2059
            refine w_beq (ykc_206 (e := (4, .ifCond .eq 7, 65)) rfl) rfl (fun q => absurd q (by decide)) (fun b2060 => ?_)
            refine w_alu (pc' := 62) (st' := [.int (Int32.ofInt 1)]) (ykc_206 (e := (0, .iconst 1, 0)) rfl) rfl rfl ?_
            refine w_br (pc' := 66) (st' := [.int (Int32.ofInt 1)]) (ykc_206 (e := (4, .goto 4, 66)) rfl) rfl ?_
            refine w_store (pc' := 68) (L' := [some (.ref 170), some (.int (Int32.ofInt 0)), some (.int y), some (.int (zn ln)), some (.int (zI true)), some (.int (Int32.ofInt 1))]) (st' := []) (m := 2) (ykc_206 (e := (3, .istore 5, 0)) rfl) rfl rfl ?_
            refine w_gb (ykc_206 (e := (4, .goto (-43), 25)) rfl) (fun k2061 hk2061 => ?_)
            have h8 := ha.trans (zLo_4 (by omega) (by omega) hgg (by omega) (by omega))
            rw [show 3 * l + 2 + 1 = 3 * (l + 1) by omega] at hts
            exact ih k2061 hk2061 (l + 1) _ _ (by omega) (zFr_trans hf (zFr_trans (zFr_mono fr (by simp) (by simp)) (zFr_mono fs (by simp) (by simp)))) hts ((fs.1 170 20 (by decide) (by decide)).trans r20) (by omega) h8 (fun j hj => by
              obtain ⟨g1, g2⟩ := hgl j hj
              exact ⟨g1, (fs.1 178 _ (by decide) (by simp)).trans g2⟩)
          · show zW n D 206 Q 58 [some (.ref 170), some (.int (Int32.ofInt 0)), some (.int y), some (.int (zn ln)), some (.int (zI true)), some (.int (Int32.ofInt 1))] [.int (zI false)] ph2059
            refine w_beq (ykc_206 (e := (4, .ifCond .eq 7, 65)) rfl) rfl (fun b2062 => ?_) (fun q => absurd q (by decide))
            refine w_alu (pc' := 66) (st' := [.int (Int32.ofInt 0)]) (ykc_206 (e := (0, .iconst 0, 0)) rfl) rfl rfl ?_
            refine w_store (pc' := 68) (L' := [some (.ref 170), some (.int (Int32.ofInt 0)), some (.int y), some (.int (zn ln)), some (.int (zI true)), some (.int (Int32.ofInt 0))]) (st' := []) (m := 2) (ykc_206 (e := (3, .istore 5, 0)) rfl) rfl rfl ?_
            refine w_gb (ykc_206 (e := (4, .goto (-43), 25)) rfl) (fun k2063 hk2063 => ?_)
            refine w_load (pc' := 27) (v := .int (Int32.ofInt 0)) (m := 2) (ykc_206 (e := (2, .iload 5, 0)) rfl) rfl rfl ?_
            refine w_zeq (ykc_206 (e := (4, .ifCond .eq 44, 71)) rfl) rfl (fun b2064 => ?_) (fun q => by exfalso; omega)
            refine w_load (pc' := 72) (v := .ref 170) (m := 1) (ykc_206 (e := (2, .aload_n kF0, 0)) rfl) rfl rfl ?_
            refine w_load (pc' := 73) (v := .int (zn ln)) (m := 1) (ykc_206 (e := (2, .iload_n kF3, 0)) rfl) rfl rfl ?_
            refine w_load (pc' := 74) (v := .int y) (m := 1) (ykc_206 (e := (2, .iload_n kF2, 0)) rfl) rfl rfl ?_
            refine w_load (pc' := 76) (v := .int (zI true)) (m := 2) (ykc_206 (e := (2, .iload 4, 0)) rfl) rfl rfl ?_
            refine w_cv (as := [.ref 170, .int (zn ln), .int y, .int (zI true)]) (r := []) (ykc_206 (e := (6, .invokevirtual 213, 0)) rfl) rfl rfl rfl rfl (zm_fault (is := true) (a := 3 * l + 2) (b := min ln 23) (ln := ln) (t := t) (n9 := ln) (c := 23) (zSh_F fs (by decide +kernel) (zSh_F fr (by decide +kernel) hS2)) hts (by omega) (by omega)) (fun v2065 ph2066 hv => ?_)
            obtain ⟨rfl, zf, rfl, ezf⟩ := hv
            show zW k2063 D 206 Q 79 [some (.ref 170), some (.int (Int32.ofInt 0)), some (.int y), some (.int (zn ln)), some (.int (zI true)), some (.int (Int32.ofInt 0))] [.int zf] ph2059
            refine w_ret (v := (some (.int zf))) (ykc_206 (e := (7, .ireturn, 0)) rfl) (zr_v rfl) ?_
            have f9 : zFr [178] [(170, 14), (170, 15), (170, 16), (170, 17), (170, 20)] ph ph2059 := zFr_trans hf (zFr_trans (zFr_mono fr (by simp) (by simp)) (zFr_mono fs (by simp) (by simp)))
            have hab := hts.2.2.1
            rw [hQ]
            refine ⟨f9, _, rfl, ?_⟩
            rw [ezf]
            unfold zFo
            by_cases e : 3 * l + 2 = ln
            · have h8 := ha.trans (zLo_2 (by omega) (by omega) hgg e)
              rw [if_neg (by omega), if_pos ⟨rfl, by omega⟩]
              exact Or.inr ⟨by omega, rfl, l + 1, by omega, (fs.1 170 20 (by decide) (by decide)).trans r20, fun j hj => by
                obtain ⟨g1, g2⟩ := hgl j hj
                exact ⟨g1, (fs.1 178 _ (by decide) (by simp)).trans g2⟩⟩
            · have h4 : l = 7 ∨ t (3 * l + 2) ≠ 59 := by omega
              have h8 := ha.trans (zLo_3 (by omega) (by omega) hgg e h4)
              refine Or.inl ⟨by omega, ?_⟩
              rw [h8]
              by_cases e2 : 3 * l + 2 = min ln 23
              · rw [if_pos ⟨by omega, Or.inl ⟨rfl, e2⟩⟩]
                omega
              · rw [if_neg (fun q => by rcases q.2 with q2 | q2; exact e2 q2.2; omega), if_neg (fun q => e2 q.2)]
          
        · have hgc : zLg R C rk 2 (min ln 23) t (3 * l) 2 = zLg R C rk 2 ln t (3 * l) 2 := zLg_b (fun i hi => hbl _ (by omega))
          rw [hgc] at hgb hr
          show zW n D 206 Q 45 [some (.ref 170), some (.int (Int32.ofInt 0)), some (.int y), some (.int (zn ln)), some (.int is0), some (.int (Int32.ofInt 1))] [.int (zI false)] ph2051
          refine w_store (pc' := 47) (L' := [some (.ref 170), some (.int (Int32.ofInt 0)), some (.int y), some (.int (zn ln)), some (.int (zI false)), some (.int (Int32.ofInt 1))]) (st' := []) (m := 2) (ykc_206 (e := (3, .istore 4, 0)) rfl) rfl rfl ?_
          refine w_load (pc' := 49) (v := .int (zI false)) (m := 2) (ykc_206 (e := (2, .iload 4, 0)) rfl) rfl rfl ?_
          refine w_beq (ykc_206 (e := (4, .ifCond .eq 16, 65)) rfl) rfl (fun b2067 => ?_) (fun q => absurd q (by decide))
          refine w_alu (pc' := 66) (st' := [.int (Int32.ofInt 0)]) (ykc_206 (e := (0, .iconst 0, 0)) rfl) rfl rfl ?_
          refine w_store (pc' := 68) (L' := [some (.ref 170), some (.int (Int32.ofInt 0)), some (.int y), some (.int (zn ln)), some (.int (zI false)), some (.int (Int32.ofInt 0))]) (st' := []) (m := 2) (ykc_206 (e := (3, .istore 5, 0)) rfl) rfl rfl ?_
          refine w_gb (ykc_206 (e := (4, .goto (-43), 25)) rfl) (fun k2068 hk2068 => ?_)
          refine w_load (pc' := 27) (v := .int (Int32.ofInt 0)) (m := 2) (ykc_206 (e := (2, .iload 5, 0)) rfl) rfl rfl ?_
          refine w_zeq (ykc_206 (e := (4, .ifCond .eq 44, 71)) rfl) rfl (fun b2069 => ?_) (fun q => by exfalso; omega)
          refine w_load (pc' := 72) (v := .ref 170) (m := 1) (ykc_206 (e := (2, .aload_n kF0, 0)) rfl) rfl rfl ?_
          refine w_load (pc' := 73) (v := .int (zn ln)) (m := 1) (ykc_206 (e := (2, .iload_n kF3, 0)) rfl) rfl rfl ?_
          refine w_load (pc' := 74) (v := .int y) (m := 1) (ykc_206 (e := (2, .iload_n kF2, 0)) rfl) rfl rfl ?_
          refine w_load (pc' := 76) (v := .int (zI false)) (m := 2) (ykc_206 (e := (2, .iload 4, 0)) rfl) rfl rfl ?_
          refine w_cv (as := [.ref 170, .int (zn ln), .int y, .int (zI false)]) (r := []) (ykc_206 (e := (6, .invokevirtual 213, 0)) rfl) rfl rfl rfl rfl (zm_fault (is := false) (a := 3 * l + zLg R C rk 2 ln t (3 * l) 2) (b := min ln 23) (ln := ln) (t := t) (n9 := ln) (c := 23) (zSh_F fr (by decide +kernel) hS2) hr (by omega) (by omega)) (fun v2070 ph2071 hv => ?_)
          obtain ⟨rfl, zf, rfl, ezf⟩ := hv
          show zW k2068 D 206 Q 79 [some (.ref 170), some (.int (Int32.ofInt 0)), some (.int y), some (.int (zn ln)), some (.int (zI false)), some (.int (Int32.ofInt 0))] [.int zf] ph2051
          refine w_ret (v := (some (.int zf))) (ykc_206 (e := (7, .ireturn, 0)) rfl) (zr_v rfl) ?_
          have h8 := ha.trans (zLo_1 (by omega) (by omega) hgb)
          rw [hQ]
          refine ⟨zFr_trans hf (zFr_mono fr (by simp) (by simp)), _, rfl, Or.inl ⟨by omega, ?_⟩⟩
          rw [ezf, h8]
          unfold zFo
          rw [if_neg (fun q => by rcases q.2 with q2 | q2; exact absurd q2.1 (by decide); omega), if_neg (fun q => absurd q.1 (by decide))]
        
    exact hl n 0 _ ph2043 (Nat.zero_le _) f1 hT1 u2042.1 (Nat.zero_le _) e0 (fun j hj => absurd hj (Nat.not_lt_zero j))
theorem zm_isNew {ph : pm_H} {k u ch : Nat} (hS : zSh ph) (h20 : zc ph 170 20 = some (.int (zn k))) (hk8 : k ≤ 8) (gu : zc ph 170 27 = some (.int (zn u))) (hu : u ≤ 15) (gc : zc ph 170 7 = some (.int (zn ch))) (hch : ch < 1000) : zM 207 [.ref 170] ph (fun v0 q => v0 = some (.int (zn k)) ∧ zFr [] [(170, 7), (170, 27)] ph q ∧ zc q 170 27 = some (.int (zn (if 0 < k then 0 else u))) ∧ zc q 170 7 = some (.int (zn (if 0 < k then ch + 1 else ch)))) := by
  obtain ⟨Q, hQ⟩ : ∃ Q : Option Value → pm_H → Prop, Q = (fun v0 q => v0 = some (.int (zn k)) ∧ zFr [] [(170, 7), (170, 27)] ph q ∧ zc q 170 27 = some (.int (zn (if 0 < k then 0 else u))) ∧ zc q 170 7 = some (.int (zn (if 0 < k then ch + 1 else ch)))) := ⟨_, rfl⟩
  rw [← hQ]
  refine zM_mk fun n D => ?_
  show zW n D 207 Q 0 [some (.ref 170)] [] ph
  have c_0 : (Int32.ofInt 0).toInt = 0 := by decide
  have c_1 : (Int32.ofInt 1).toInt = 1 := by decide
  have tk := znt (k := k) (by omega)
  have tu := znt (k := u) (by omega)
  have tc := znt (k := ch) (by omega)
  refine w_load (pc' := 1) (v := .ref 170) (m := 1) (ykc_207 (e := (2, .aload_n kF0, 0)) rfl) rfl rfl ?_
  refine w_load (pc' := 2) (v := .ref 170) (m := 1) (ykc_207 (e := (2, .aload_n kF0, 0)) rfl) rfl rfl ?_
  refine w_gf (pc' := 5) (v := .int (zn k)) (ykc_207 (e := (5, .getfield 197, 0)) rfl) rfl h20 rfl ?_
  refine w_zle (ykc_207 (e := (4, .ifCond .le 7, 12)) rfl) rfl (fun b2072 => ?_) (fun b2072 => ?_)
  · refine w_load (pc' := 13) (v := .ref 170) (m := 1) (ykc_207 (e := (2, .aload_n kF0, 0)) rfl) rfl rfl ?_
    refine w_gf (pc' := 16) (v := .int (zn u)) (ykc_207 (e := (5, .getfield 188, 0)) rfl) rfl gu rfl ?_
    refine w_pf (pc' := 19) (ykc_207 (e := (5, .putfield 188, 0)) rfl) rfl rfl (fun ph2074 u2073 => ?_)
    refine w_load (pc' := 20) (v := .ref 170) (m := 1) (ykc_207 (e := (2, .aload_n kF0, 0)) rfl) rfl rfl ?_
    refine w_alu (pc' := 21) (st' := [.ref 170, .ref 170]) (ykc_207 (e := (0, .dup, 0)) rfl) rfl rfl ?_
    refine w_gf (pc' := 24) (v := .int (zn ch)) (ykc_207 (e := (5, .getfield 191, 0)) rfl) rfl ((u2073.2.1 170 7 (fun q => absurd q.2 (by decide))).trans gc) rfl ?_
    refine w_load (pc' := 25) (v := .ref 170) (m := 1) (ykc_207 (e := (2, .aload_n kF0, 0)) rfl) rfl rfl ?_
    refine w_gf (pc' := 28) (v := .int (zn k)) (ykc_207 (e := (5, .getfield 197, 0)) rfl) rfl ((u2073.2.1 170 20 (fun q => absurd q.2 (by decide))).trans h20) rfl ?_
    refine w_zle (ykc_207 (e := (4, .ifCond .le 7, 35)) rfl) rfl (fun b2075 => ?_) (fun q => by exfalso; omega)
    refine w_alu (pc' := 36) (st' := [.int (Int32.ofInt 0), .int (zn ch), .ref 170]) (ykc_207 (e := (0, .iconst 0, 0)) rfl) rfl rfl ?_
    refine w_cs (as := [.int (Int32.ofInt 0)]) (r := [.int (zn ch), .ref 170]) (ykc_207 (e := (6, .invokestatic 154, 0)) rfl) rfl rfl rfl rfl (zm_flag0) (fun v2076 ph2077 hv => ?_)
    obtain ⟨rfl, rfl⟩ := hv
    have cI1 : (zI true).toInt = 1 := rfl
    have cI0 : (zI false).toInt = 0 := rfl
    show zW n D 207 Q 39 [some (.ref 170)] [.int (zI false), .int (zn ch), .ref 170] ph2074
    have e2078 : (zn ch) + (zI false) = zn (ch) := zaddN (a := ch) (b := 0) tc cI0 (by omega)
    have te2078 := znt (k := ch) (by omega)
    refine w_alu (pc' := 40) (st' := [.int (zn (ch)), .ref 170]) (ykc_207 (e := (0, .iadd, 0)) rfl) (by show some ([.int ((zn ch) + (zI false)), .ref 170] : List Value) = _; rw [e2078]) rfl ?_
    refine w_pf (pc' := 43) (ykc_207 (e := (5, .putfield 191, 0)) rfl) rfl rfl (fun ph2080 u2079 => ?_)
    refine w_load (pc' := 44) (v := .ref 170) (m := 1) (ykc_207 (e := (2, .aload_n kF0, 0)) rfl) rfl rfl ?_
    refine w_gf (pc' := 47) (v := .int (zn k)) (ykc_207 (e := (5, .getfield 197, 0)) rfl) rfl ((u2079.2.1 170 20 (fun q => absurd q.2 (by decide))).trans ((u2073.2.1 170 20 (fun q => absurd q.2 (by decide))).trans h20)) rfl ?_
    refine w_ret (v := (some (.int (zn k)))) (ykc_207 (e := (7, .ireturn, 0)) rfl) (zr_v rfl) ?_
    have h9 : ¬ 0 < k := by omega
    rw [hQ, if_neg h9, if_neg h9]
    exact ⟨rfl, zFr_trans (zFr_st u2073 (Or.inr (by simp))) (zFr_st u2079 (Or.inr (by simp))), ((u2079.2.1 170 27 (fun q => absurd q.2 (by decide))).trans u2073.1), u2079.1⟩
  · refine w_alu (pc' := 9) (st' := [.int (Int32.ofInt 0), .ref 170]) (ykc_207 (e := (0, .iconst 0, 0)) rfl) rfl rfl ?_
    refine w_br (pc' := 16) (st' := [.int (Int32.ofInt 0), .ref 170]) (ykc_207 (e := (4, .goto 7, 16)) rfl) rfl ?_
    refine w_pf (pc' := 19) (ykc_207 (e := (5, .putfield 188, 0)) rfl) rfl rfl (fun ph2082 u2081 => ?_)
    refine w_load (pc' := 20) (v := .ref 170) (m := 1) (ykc_207 (e := (2, .aload_n kF0, 0)) rfl) rfl rfl ?_
    refine w_alu (pc' := 21) (st' := [.ref 170, .ref 170]) (ykc_207 (e := (0, .dup, 0)) rfl) rfl rfl ?_
    refine w_gf (pc' := 24) (v := .int (zn ch)) (ykc_207 (e := (5, .getfield 191, 0)) rfl) rfl ((u2081.2.1 170 7 (fun q => absurd q.2 (by decide))).trans gc) rfl ?_
    refine w_load (pc' := 25) (v := .ref 170) (m := 1) (ykc_207 (e := (2, .aload_n kF0, 0)) rfl) rfl rfl ?_
    refine w_gf (pc' := 28) (v := .int (zn k)) (ykc_207 (e := (5, .getfield 197, 0)) rfl) rfl ((u2081.2.1 170 20 (fun q => absurd q.2 (by decide))).trans h20) rfl ?_
    refine w_zle (ykc_207 (e := (4, .ifCond .le 7, 35)) rfl) rfl (fun q => by exfalso; omega) (fun b2083 => ?_)
    refine w_alu (pc' := 32) (st' := [.int (Int32.ofInt 1), .int (zn ch), .ref 170]) (ykc_207 (e := (0, .iconst 1, 0)) rfl) rfl rfl ?_
    refine w_br (pc' := 36) (st' := [.int (Int32.ofInt 1), .int (zn ch), .ref 170]) (ykc_207 (e := (4, .goto 4, 36)) rfl) rfl ?_
    refine w_cs (as := [.int (Int32.ofInt 1)]) (r := [.int (zn ch), .ref 170]) (ykc_207 (e := (6, .invokestatic 154, 0)) rfl) rfl rfl rfl rfl (zm_flag1) (fun v2084 ph2085 hv => ?_)
    obtain ⟨rfl, rfl⟩ := hv
    have cI1 : (zI true).toInt = 1 := rfl
    have cI0 : (zI false).toInt = 0 := rfl
    show zW n D 207 Q 39 [some (.ref 170)] [.int (zI true), .int (zn ch), .ref 170] ph2082
    have e2086 : (zn ch) + (zI true) = zn (ch + 1) := zaddN (a := ch) (b := 1) tc cI1 (by omega)
    have te2086 := znt (k := ch + 1) (by omega)
    refine w_alu (pc' := 40) (st' := [.int (zn (ch + 1)), .ref 170]) (ykc_207 (e := (0, .iadd, 0)) rfl) (by show some ([.int ((zn ch) + (zI true)), .ref 170] : List Value) = _; rw [e2086]) rfl ?_
    refine w_pf (pc' := 43) (ykc_207 (e := (5, .putfield 191, 0)) rfl) rfl rfl (fun ph2088 u2087 => ?_)
    refine w_load (pc' := 44) (v := .ref 170) (m := 1) (ykc_207 (e := (2, .aload_n kF0, 0)) rfl) rfl rfl ?_
    refine w_gf (pc' := 47) (v := .int (zn k)) (ykc_207 (e := (5, .getfield 197, 0)) rfl) rfl ((u2087.2.1 170 20 (fun q => absurd q.2 (by decide))).trans ((u2081.2.1 170 20 (fun q => absurd q.2 (by decide))).trans h20)) rfl ?_
    refine w_ret (v := (some (.int (zn k)))) (ykc_207 (e := (7, .ireturn, 0)) rfl) (zr_v rfl) ?_
    have h9 : 0 < k := by omega
    rw [hQ, if_pos h9, if_pos h9]
    exact ⟨rfl, zFr_trans (zFr_st u2081 (Or.inr (by simp))) (zFr_st u2087 (Or.inr (by simp))), ((u2087.2.1 170 27 (fun q => absurd q.2 (by decide))).trans u2081.1), u2087.1⟩
theorem zNr_ad {p q1 q2 q3 q : pm_H} {P f a b : Nat} {v : Nat → Nat} (u1 : zst p q1 174 P (.int (zn f))) (u2 : zst q1 q2 174 (8 + P) (.int (zn a))) (u3 : zst q2 q3 174 (16 + P) (.int (zn b))) (u4 : zst q3 q 174 (24 + P) (.int (zn 0))) (h : zNr p 174 0 v) : zNr q 174 0 (zad v P f a b) := zNr_u u4 (zNr_u u3 (zNr_u u2 (zNr_u u1 h)))
theorem zm_people {ph : pm_H} {ln : Nat} {t : Nat → Nat} {R C P G u ch hn : Nat} {rk : Nat → Bool} {v : Nat → Nat} {w : Nat → Nat → Nat} {kp : Nat → Bool} {kc : Nat → Nat} {sv : Nat → Nat → Nat} (hS : zSh ph) (hn14 : zc ph 170 14 = some (.int (zn ln))) (hn80 : ln ≤ 80) (gtm : ∀ i, i < ln → zc ph 176 i = some (.int (zn (t i))) ∧ t i < 256) (hK : zKM ph R C rk P G v u w ch kp kc sv hn) (hch : ch < 1000) : zM 208 [.ref 170] ph (fun v0 q => ∃ z : Int32, v0 = some (.int z) ∧ z.toInt = zLa R C rk 4 5 ln t (8 - P) ∧ ((zLa R C rk 4 5 ln t (8 - P) ≤ 0 ∧ zKM q R C rk P G v u w ch kp kc sv hn) ∨ (∃ k : Nat, 0 < k ∧ (k : Int) = zLa R C rk 4 5 ln t (8 - P) ∧ zKM q R C rk (P + k) G (zPv C t P v k) 0 w (ch + 1) kp kc sv hn))) := by
  obtain ⟨Q, hQ⟩ : ∃ Q : Option Value → pm_H → Prop, Q = (fun v0 q => ∃ z : Int32, v0 = some (.int z) ∧ z.toInt = zLa R C rk 4 5 ln t (8 - P) ∧ ((zLa R C rk 4 5 ln t (8 - P) ≤ 0 ∧ zKM q R C rk P G v u w ch kp kc sv hn) ∨ (∃ k : Nat, 0 < k ∧ (k : Int) = zLa R C rk 4 5 ln t (8 - P) ∧ zKM q R C rk (P + k) G (zPv C t P v k) 0 w (ch + 1) kp kc sv hn))) := ⟨_, rfl⟩
  rw [← hQ]
  refine zM_mk fun n D => ?_
  show zW n D 208 Q 0 [some (.ref 170), none, none] [] ph
  have c_0 : ((Int8.ofInt 16).toInt32).toInt = 16 := by decide
  have c_1 : ((Int8.ofInt 24).toInt32).toInt = 24 := by decide
  have c_2 : ((Int8.ofInt 39).toInt32).toInt = 39 := by decide
  have c_3 : ((Int8.ofInt 8).toInt32).toInt = 8 := by decide
  have c_4 : (Int32.ofInt 0).toInt = 0 := by decide
  have c_5 : (Int32.ofInt 1).toInt = 1 := by decide
  have c_6 : (Int32.ofInt 2).toInt = 2 := by decide
  have c_7 : (Int32.ofInt 3).toInt = 3 := by decide
  obtain ⟨hL, hN, hv, hU, hk, hh⟩ := hK
  obtain ⟨gP, hP8, gG, hG8⟩ := id hN
  have tP := znt (k := P) (by omega)
  have tG := znt (k := G) (by omega)
  have hR37 : 3 ≤ R ∧ R ≤ 7 := ⟨hL.2.2.2.1, hL.2.2.2.2.1⟩
  have hC37 : 3 ≤ C ∧ C ≤ 7 := hL.2.2.2.2.2
  have hRC49 : R * C ≤ 49 := zRC49 hR37.2 hC37.2
  have hr := @zLa_r R C 4 5 ln (8 - P) rk t (by omega)
  refine w_load (pc' := 1) (v := .ref 170) (m := 1) (ykc_208 (e := (2, .aload_n kF0, 0)) rfl) rfl rfl ?_
  refine w_alu (pc' := 2) (st' := [.int (Int32.ofInt 0), .ref 170]) (ykc_208 (e := (0, .iconst 0, 0)) rfl) rfl rfl ?_
  refine w_pf (pc' := 5) (ykc_208 (e := (5, .putfield 3, 0)) rfl) rfl rfl (fun ph2090 u2089 => ?_)
  refine w_load (pc' := 6) (v := .ref 170) (m := 1) (ykc_208 (e := (2, .aload_n kF0, 0)) rfl) rfl rfl ?_
  refine w_alu (pc' := 7) (st' := [.int (Int32.ofInt 1), .ref 170]) (ykc_208 (e := (0, .iconst 1, 0)) rfl) rfl rfl ?_
  refine w_push (pc' := 9) (v := .int ((Int8.ofInt 39).toInt32)) (m := 2) (ykc_208 (e := (1, .bipush 39, 0)) rfl) rfl rfl ?_
  have f0 : zFr [] [(170, 0)] ph ph2090 := zFr_st u2089 (Or.inr (by simp))
  refine w_cv (as := [.ref 170, .int (Int32.ofInt 1), .int ((Int8.ofInt 39).toInt32)]) (r := []) (ykc_208 (e := (6, .invokevirtual 217, 0)) rfl) rfl rfl rfl rfl (zm_rlines4 (ln := ln) (t := t) (N := P) (zSh_F f0 (by decide +kernel) hS) (zMl_F f0 (by simp) (by simp) (by simp) (by simp) hL) ((f0.1 170 14 (by decide) (by decide)).trans hn14) hn80 (fun i hi => ⟨(f0.1 176 i (by decide) (by simp)).trans (gtm i hi).1, (gtm i hi).2⟩) ((f0.1 170 5 (by decide) (by decide)).trans gP) (by omega) (by omega)) (fun v2091 ph2092 hv => ?_)
  rcases hv with ⟨fr, z9, rfl, ⟨hneg, ez⟩ | ⟨hpos, ez, k9, ek9, rl20, hgl⟩⟩
  · have f1 : zFr [178] [(170, 0), (170, 14), (170, 15), (170, 16), (170, 17), (170, 20)] ph ph2092 := zFr_trans (zFr_mono f0 (by simp) (by simp)) (zFr_mono fr (by simp) (by simp))
    show zW n D 208 Q 12 [some (.ref 170), none, none] [.int z9] ph2092
    refine w_store (pc' := 13) (L' := [some (.ref 170), some (.int z9), none]) (st' := []) (m := 1) (ykc_208 (e := (3, .istore_n kF1, 0)) rfl) rfl rfl ?_
    refine w_load (pc' := 14) (v := .int z9) (m := 1) (ykc_208 (e := (2, .iload_n kF1, 0)) rfl) rfl rfl ?_
    refine w_zge (ykc_208 (e := (4, .ifCond .ge 5, 19)) rfl) rfl (fun q => by exfalso; omega) (fun b2093 => ?_)
    refine w_load (pc' := 18) (v := .int z9) (m := 1) (ykc_208 (e := (2, .iload_n kF1, 0)) rfl) rfl rfl ?_
    refine w_ret (v := (some (.int z9))) (ykc_208 (e := (7, .ireturn, 0)) rfl) (zr_v rfl) ?_
    rw [hQ]
    exact ⟨_, rfl, ez, Or.inl ⟨by omega, zMl_F f1 (by simp) (by simp) (by simp) (by simp) hL, zMp_F f1 (by simp) (by simp) (by simp) hN, zNr_F f1 (by simp) (by simp) hv, zMu_F f1 (by simp) (by simp) (by simp) hU, zMk_F f1 (by simp) (by simp) (by simp) hk, zMh_F f1 (by simp) (by simp) hh⟩⟩
  · have f1 : zFr [178] [(170, 0), (170, 14), (170, 15), (170, 16), (170, 17), (170, 20)] ph ph2092 := zFr_trans (zFr_mono f0 (by simp) (by simp)) (zFr_mono fr (by simp) (by simp))
    have h20 := rl20
    have tk9 := znt (k := k9) (by omega)
    show zW n D 208 Q 12 [some (.ref 170), none, none] [.int z9] ph2092
    refine w_store (pc' := 13) (L' := [some (.ref 170), some (.int z9), none]) (st' := []) (m := 1) (ykc_208 (e := (3, .istore_n kF1, 0)) rfl) rfl rfl ?_
    refine w_load (pc' := 14) (v := .int z9) (m := 1) (ykc_208 (e := (2, .iload_n kF1, 0)) rfl) rfl rfl ?_
    refine w_zge (ykc_208 (e := (4, .ifCond .ge 5, 19)) rfl) rfl (fun b2094 => ?_) (fun q => by exfalso; omega)
    refine w_alu (pc' := 20) (st' := [.int (Int32.ofInt 0)]) (ykc_208 (e := (0, .iconst 0, 0)) rfl) rfl rfl ?_
    refine w_store (pc' := 21) (L' := [some (.ref 170), some (.int z9), some (.int (Int32.ofInt 0))]) (st' := []) (m := 1) (ykc_208 (e := (3, .istore_n kF2, 0)) rfl) rfl rfl ?_
    have hl : ∀ (n : Nat), ∀ (k : Nat) (ph2 : pm_H), (k ≤ k9) → (zFr [174] [(170, 5)] ph2092 ph2) → (zMp ph2 (P + k) G) → (zNr ph2 174 0 (zPv C t P v k)) → zW n D 208 Q 21 [some (.ref 170), some (.int z9), some (.int (zn k))] [] ph2 := by
      intro n
      induction n using Nat.strongRecOn with
      | ind n ih =>
        intro k ph2 hk9 hf hN2 hv2
        have tk := znt (k := k) (by omega)
        have tc9 := znt (k := P + k) (by omega)
        refine w_load (pc' := 22) (v := .int (zn k)) (m := 1) (ykc_208 (e := (2, .iload_n kF2, 0)) rfl) rfl rfl ?_
        refine w_load (pc' := 23) (v := .ref 170) (m := 1) (ykc_208 (e := (2, .aload_n kF0, 0)) rfl) rfl rfl ?_
        refine w_gf (pc' := 26) (v := .int (zn k9)) (ykc_208 (e := (5, .getfield 197, 0)) rfl) rfl ((hf.1 170 20 (by decide) (by decide)).trans h20) rfl ?_
        refine w_ige (ykc_208 (e := (4, .if_icmp .ge 93, 119)) rfl) rfl (fun b2095 => ?_) (fun b2095 => ?_)
        · refine w_load (pc' := 120) (v := .ref 170) (m := 1) (ykc_208 (e := (2, .aload_n kF0, 0)) rfl) rfl rfl ?_
          have ek : k = k9 := by omega
          subst ek
          have f2 : zFr [174, 178] [(170, 0), (170, 5), (170, 6), (170, 14), (170, 15), (170, 16), (170, 17), (170, 20)] ph ph2 := zFr_trans (zFr_mono f1 (by simp) (by simp)) (zFr_mono hf (by simp) (by simp))
          refine w_cv (as := [.ref 170]) (r := []) (ykc_208 (e := (6, .invokevirtual 221, 0)) rfl) rfl rfl rfl rfl (zm_isNew (u := u) (ch := ch) (zSh_F f2 (by decide +kernel) hS) ((hf.1 170 20 (by decide) (by decide)).trans h20) (by omega) ((f2.1 170 27 (by decide) (by decide)).trans hU.1) hU.2.1 ((f2.1 170 7 (by decide) (by decide)).trans hk.1) hch) (fun v2096 ph2097 hv => ?_)
          obtain ⟨rfl, fn, g27, g7⟩ := hv
          show zW n D 208 Q 123 [some (.ref 170), some (.int z9), some (.int (zn k))] [.int (zn k)] ph2097
          refine w_ret (v := (some (.int (zn k)))) (ykc_208 (e := (7, .ireturn, 0)) rfl) (zr_v rfl) ?_
          have f3 : zFr [174, 178] [(170, 0), (170, 5), (170, 6), (170, 7), (170, 14), (170, 15), (170, 16), (170, 17), (170, 20), (170, 27)] ph _ := zFr_trans (zFr_mono f2 (by simp) (by simp)) (zFr_mono fn (by simp) (by simp))
          have hL3 := zMl_F f3 (by simp) (by simp) (by simp) (by simp) hL
          have hN3 := zMp_F fn (by simp) (by simp) (by simp) hN2
          have hv3 := zNr_F fn (by simp) (by simp) hv2
          have hh3 := zMh_F f3 (by simp) (by simp) hh
          rw [hQ]
          refine ⟨_, rfl, by omega, ?_⟩
          by_cases e : 0 < k
          · rw [if_pos e] at g27 g7
            refine Or.inr ⟨k, e, by omega, hL3, hN3, hv3, ⟨g27, by decide, fun i hi => absurd hi (Nat.not_lt_zero i)⟩, ⟨g7, by omega, fun i hi => ?_⟩, hh3⟩
            obtain ⟨k1, k2, k3, k4⟩ := hk.2.2 i hi
            exact ⟨(f3.1 198 i (by decide) (by simp)).trans k1, (f3.1 199 i (by decide) (by simp)).trans k2, by omega, fun h => zNr_F f3 (by simp) (by simp) (k4 h)⟩
          · obtain rfl : k = 0 := by omega
            rw [if_neg e] at g27 g7
            refine Or.inl ⟨by omega, hL3, hN3, hv3, ⟨g27, hU.2.1, zUr_F f3 (by simp) (by simp) hU.2.2⟩, ⟨g7, hk.2.1, fun i hi => ?_⟩, hh3⟩
            obtain ⟨k1, k2, k3, k4⟩ := hk.2.2 i hi
            exact ⟨(f3.1 198 i (by decide) (by simp)).trans k1, (f3.1 199 i (by decide) (by simp)).trans k2, k3, fun h => zNr_F f3 (by simp) (by simp) (k4 h)⟩
        · have hlt : k < k9 := by omega
          refine w_load (pc' := 30) (v := .ref 170) (m := 1) (ykc_208 (e := (2, .aload_n kF0, 0)) rfl) rfl rfl ?_
          refine w_gf (pc' := 33) (v := .ref 174) (ykc_208 (e := (5, .getfield 41, 0)) rfl) rfl ((hf.1 170 11 (by decide) (by decide)).trans ((f1.1 170 11 (by decide) (by decide)).trans (zsg hS zs_170_11))) rfl ?_
          refine w_load (pc' := 34) (v := .ref 170) (m := 1) (ykc_208 (e := (2, .aload_n kF0, 0)) rfl) rfl rfl ?_
          refine w_gf (pc' := 37) (v := .int (zn (P + k))) (ykc_208 (e := (5, .getfield 130, 0)) rfl) rfl hN2.1 rfl ?_
          refine w_load (pc' := 38) (v := .ref 170) (m := 1) (ykc_208 (e := (2, .aload_n kF0, 0)) rfl) rfl rfl ?_
          refine w_gf (pc' := 41) (v := .ref 178) (ykc_208 (e := (5, .getfield 53, 0)) rfl) rfl ((hf.1 170 19 (by decide) (by decide)).trans ((f1.1 170 19 (by decide) (by decide)).trans (zsg hS zs_170_19))) rfl ?_
          refine w_alu (pc' := 42) (st' := [.int (Int32.ofInt 3), .ref 178, .int (zn (P + k)), .ref 174]) (ykc_208 (e := (0, .iconst 3, 0)) rfl) rfl rfl ?_
          refine w_load (pc' := 43) (v := .int (zn k)) (m := 1) (ykc_208 (e := (2, .iload_n kF2, 0)) rfl) rfl rfl ?_
          have e2098 : (Int32.ofInt 3) * (zn k) = zn (3 * k) := zn_of (by rw [ti_mul (by rw [show (Int32.ofInt 3).toInt = (3 : Int) by omega, show (zn k).toInt = ((k : Nat) : Int) by omega]; omega) (by rw [show (Int32.ofInt 3).toInt = (3 : Int) by omega, show (zn k).toInt = ((k : Nat) : Int) by omega]; omega), show (Int32.ofInt 3).toInt = (3 : Int) by omega, show (zn k).toInt = ((k : Nat) : Int) by omega] <;> omega)
          have te2098 := znt (k := 3 * k) (by omega)
          refine w_alu (pc' := 44) (st' := [.int (zn (3 * k)), .ref 178, .int (zn (P + k)), .ref 174]) (ykc_208 (e := (0, .imul, 0)) rfl) (by rw [← e2098]; rfl) rfl ?_
          refine w_ialk (pc' := 45) (k := 3 * k) (ykc_208 (e := (5, .iaload, 0)) rfl) ((hf.1 178 (3 * k) (by decide) (by simp)).trans (hgl k hlt).2.1) (by omega) rfl ?_
          refine w_ias (pc' := 46) (k := P + k) (ykc_208 (e := (5, .iastore, 0)) rfl) (by omega) rfl (fun ph2100 u2099 => ?_)
          refine w_load (pc' := 47) (v := .ref 170) (m := 1) (ykc_208 (e := (2, .aload_n kF0, 0)) rfl) rfl rfl ?_
          refine w_gf (pc' := 50) (v := .ref 174) (ykc_208 (e := (5, .getfield 41, 0)) rfl) rfl ((u2099.2.1 170 11 (fun q => absurd q.1 (by decide))).trans ((hf.1 170 11 (by decide) (by decide)).trans ((f1.1 170 11 (by decide) (by decide)).trans (zsg hS zs_170_11)))) rfl ?_
          refine w_push (pc' := 52) (v := .int ((Int8.ofInt 8).toInt32)) (m := 2) (ykc_208 (e := (1, .bipush 8, 0)) rfl) rfl rfl ?_
          refine w_load (pc' := 53) (v := .ref 170) (m := 1) (ykc_208 (e := (2, .aload_n kF0, 0)) rfl) rfl rfl ?_
          refine w_gf (pc' := 56) (v := .int (zn (P + k))) (ykc_208 (e := (5, .getfield 130, 0)) rfl) rfl ((u2099.2.1 170 5 (fun q => absurd q.1 (by decide))).trans hN2.1) rfl ?_
          have e2101 : ((Int8.ofInt 8).toInt32) + (zn (P + k)) = zn (8 + (P + k)) := (zaddN (a := 8) (b := P + k) c_3 (znt (by omega)) (by omega)) 
          have te2101 := znt (k := 8 + (P + k)) (by omega)
          refine w_alu (pc' := 57) (st' := [.int (zn (8 + (P + k))), .ref 174]) (ykc_208 (e := (0, .iadd, 0)) rfl) (by rw [← e2101]; rfl) rfl ?_
          refine w_load (pc' := 58) (v := .ref 170) (m := 1) (ykc_208 (e := (2, .aload_n kF0, 0)) rfl) rfl rfl ?_
          refine w_gf (pc' := 61) (v := .ref 178) (ykc_208 (e := (5, .getfield 53, 0)) rfl) rfl ((u2099.2.1 170 19 (fun q => absurd q.1 (by decide))).trans ((hf.1 170 19 (by decide) (by decide)).trans ((f1.1 170 19 (by decide) (by decide)).trans (zsg hS zs_170_19)))) rfl ?_
          refine w_alu (pc' := 62) (st' := [.int (Int32.ofInt 3), .ref 178, .int (zn (8 + (P + k))), .ref 174]) (ykc_208 (e := (0, .iconst 3, 0)) rfl) rfl rfl ?_
          refine w_load (pc' := 63) (v := .int (zn k)) (m := 1) (ykc_208 (e := (2, .iload_n kF2, 0)) rfl) rfl rfl ?_
          have e2102 : (Int32.ofInt 3) * (zn k) = zn (3 * k) := zn_of (by rw [ti_mul (by rw [show (Int32.ofInt 3).toInt = (3 : Int) by omega, show (zn k).toInt = ((k : Nat) : Int) by omega]; omega) (by rw [show (Int32.ofInt 3).toInt = (3 : Int) by omega, show (zn k).toInt = ((k : Nat) : Int) by omega]; omega), show (Int32.ofInt 3).toInt = (3 : Int) by omega, show (zn k).toInt = ((k : Nat) : Int) by omega] <;> omega)
          have te2102 := znt (k := 3 * k) (by omega)
          refine w_alu (pc' := 64) (st' := [.int (zn (3 * k)), .ref 178, .int (zn (8 + (P + k))), .ref 174]) (ykc_208 (e := (0, .imul, 0)) rfl) (by rw [← e2102]; rfl) rfl ?_
          refine w_alu (pc' := 65) (st' := [.int (Int32.ofInt 1), .int (zn (3 * k)), .ref 178, .int (zn (8 + (P + k))), .ref 174]) (ykc_208 (e := (0, .iconst 1, 0)) rfl) rfl rfl ?_
          have e2103 : (zn (3 * k)) + (Int32.ofInt 1) = zn (3 * k + 1) := (zaddN (a := 3 * k) (b := 1) (znt (by omega)) c_5 (by omega)) 
          have te2103 := znt (k := 3 * k + 1) (by omega)
          refine w_alu (pc' := 66) (st' := [.int (zn (3 * k + 1)), .ref 178, .int (zn (8 + (P + k))), .ref 174]) (ykc_208 (e := (0, .iadd, 0)) rfl) (by rw [← e2103]; rfl) rfl ?_
          refine w_ialk (pc' := 67) (k := 3 * k + 1) (ykc_208 (e := (5, .iaload, 0)) rfl) ((u2099.2.1 178 (3 * k + 1) (fun q => absurd q.1 (by decide))).trans ((hf.1 178 (3 * k + 1) (by decide) (by simp)).trans (hgl k hlt).2.2.1)) (by omega) rfl ?_
          refine w_ias (pc' := 68) (k := 8 + (P + k)) (ykc_208 (e := (5, .iastore, 0)) rfl) (by omega) rfl (fun ph2105 u2104 => ?_)
          refine w_load (pc' := 69) (v := .ref 170) (m := 1) (ykc_208 (e := (2, .aload_n kF0, 0)) rfl) rfl rfl ?_
          refine w_gf (pc' := 72) (v := .ref 174) (ykc_208 (e := (5, .getfield 41, 0)) rfl) rfl ((u2104.2.1 170 11 (fun q => absurd q.1 (by decide))).trans ((u2099.2.1 170 11 (fun q => absurd q.1 (by decide))).trans ((hf.1 170 11 (by decide) (by decide)).trans ((f1.1 170 11 (by decide) (by decide)).trans (zsg hS zs_170_11))))) rfl ?_
          refine w_push (pc' := 74) (v := .int ((Int8.ofInt 16).toInt32)) (m := 2) (ykc_208 (e := (1, .bipush 16, 0)) rfl) rfl rfl ?_
          refine w_load (pc' := 75) (v := .ref 170) (m := 1) (ykc_208 (e := (2, .aload_n kF0, 0)) rfl) rfl rfl ?_
          refine w_gf (pc' := 78) (v := .int (zn (P + k))) (ykc_208 (e := (5, .getfield 130, 0)) rfl) rfl ((u2104.2.1 170 5 (fun q => absurd q.1 (by decide))).trans ((u2099.2.1 170 5 (fun q => absurd q.1 (by decide))).trans hN2.1)) rfl ?_
          have e2106 : ((Int8.ofInt 16).toInt32) + (zn (P + k)) = zn (16 + (P + k)) := (zaddN (a := 16) (b := P + k) c_0 (znt (by omega)) (by omega)) 
          have te2106 := znt (k := 16 + (P + k)) (by omega)
          refine w_alu (pc' := 79) (st' := [.int (zn (16 + (P + k))), .ref 174]) (ykc_208 (e := (0, .iadd, 0)) rfl) (by rw [← e2106]; rfl) rfl ?_
          refine w_load (pc' := 80) (v := .ref 170) (m := 1) (ykc_208 (e := (2, .aload_n kF0, 0)) rfl) rfl rfl ?_
          refine w_gf (pc' := 83) (v := .ref 178) (ykc_208 (e := (5, .getfield 53, 0)) rfl) rfl ((u2104.2.1 170 19 (fun q => absurd q.1 (by decide))).trans ((u2099.2.1 170 19 (fun q => absurd q.1 (by decide))).trans ((hf.1 170 19 (by decide) (by decide)).trans ((f1.1 170 19 (by decide) (by decide)).trans (zsg hS zs_170_19))))) rfl ?_
          refine w_alu (pc' := 84) (st' := [.int (Int32.ofInt 3), .ref 178, .int (zn (16 + (P + k))), .ref 174]) (ykc_208 (e := (0, .iconst 3, 0)) rfl) rfl rfl ?_
          refine w_load (pc' := 85) (v := .int (zn k)) (m := 1) (ykc_208 (e := (2, .iload_n kF2, 0)) rfl) rfl rfl ?_
          have e2107 : (Int32.ofInt 3) * (zn k) = zn (3 * k) := zn_of (by rw [ti_mul (by rw [show (Int32.ofInt 3).toInt = (3 : Int) by omega, show (zn k).toInt = ((k : Nat) : Int) by omega]; omega) (by rw [show (Int32.ofInt 3).toInt = (3 : Int) by omega, show (zn k).toInt = ((k : Nat) : Int) by omega]; omega), show (Int32.ofInt 3).toInt = (3 : Int) by omega, show (zn k).toInt = ((k : Nat) : Int) by omega] <;> omega)
          have te2107 := znt (k := 3 * k) (by omega)
          refine w_alu (pc' := 86) (st' := [.int (zn (3 * k)), .ref 178, .int (zn (16 + (P + k))), .ref 174]) (ykc_208 (e := (0, .imul, 0)) rfl) (by rw [← e2107]; rfl) rfl ?_
          refine w_alu (pc' := 87) (st' := [.int (Int32.ofInt 2), .int (zn (3 * k)), .ref 178, .int (zn (16 + (P + k))), .ref 174]) (ykc_208 (e := (0, .iconst 2, 0)) rfl) rfl rfl ?_
          have e2108 : (zn (3 * k)) + (Int32.ofInt 2) = zn (3 * k + 2) := (zaddN (a := 3 * k) (b := 2) (znt (by omega)) c_6 (by omega)) 
          have te2108 := znt (k := 3 * k + 2) (by omega)
          refine w_alu (pc' := 88) (st' := [.int (zn (3 * k + 2)), .ref 178, .int (zn (16 + (P + k))), .ref 174]) (ykc_208 (e := (0, .iadd, 0)) rfl) (by rw [← e2108]; rfl) rfl ?_
          refine w_ialk (pc' := 89) (k := 3 * k + 2) (ykc_208 (e := (5, .iaload, 0)) rfl) ((u2104.2.1 178 (3 * k + 2) (fun q => absurd q.1 (by decide))).trans ((u2099.2.1 178 (3 * k + 2) (fun q => absurd q.1 (by decide))).trans ((hf.1 178 (3 * k + 2) (by decide) (by simp)).trans (hgl k hlt).2.2.2))) (by omega) rfl ?_
          refine w_ias (pc' := 90) (k := 16 + (P + k)) (ykc_208 (e := (5, .iastore, 0)) rfl) (by omega) rfl (fun ph2110 u2109 => ?_)
          refine w_load (pc' := 91) (v := .ref 170) (m := 1) (ykc_208 (e := (2, .aload_n kF0, 0)) rfl) rfl rfl ?_
          refine w_gf (pc' := 94) (v := .ref 174) (ykc_208 (e := (5, .getfield 41, 0)) rfl) rfl ((u2109.2.1 170 11 (fun q => absurd q.1 (by decide))).trans ((u2104.2.1 170 11 (fun q => absurd q.1 (by decide))).trans ((u2099.2.1 170 11 (fun q => absurd q.1 (by decide))).trans ((hf.1 170 11 (by decide) (by decide)).trans ((f1.1 170 11 (by decide) (by decide)).trans (zsg hS zs_170_11)))))) rfl ?_
          refine w_push (pc' := 96) (v := .int ((Int8.ofInt 24).toInt32)) (m := 2) (ykc_208 (e := (1, .bipush 24, 0)) rfl) rfl rfl ?_
          refine w_load (pc' := 97) (v := .ref 170) (m := 1) (ykc_208 (e := (2, .aload_n kF0, 0)) rfl) rfl rfl ?_
          refine w_gf (pc' := 100) (v := .int (zn (P + k))) (ykc_208 (e := (5, .getfield 130, 0)) rfl) rfl ((u2109.2.1 170 5 (fun q => absurd q.1 (by decide))).trans ((u2104.2.1 170 5 (fun q => absurd q.1 (by decide))).trans ((u2099.2.1 170 5 (fun q => absurd q.1 (by decide))).trans hN2.1))) rfl ?_
          have e2111 : ((Int8.ofInt 24).toInt32) + (zn (P + k)) = zn (24 + (P + k)) := (zaddN (a := 24) (b := P + k) c_1 (znt (by omega)) (by omega)) 
          have te2111 := znt (k := 24 + (P + k)) (by omega)
          refine w_alu (pc' := 101) (st' := [.int (zn (24 + (P + k))), .ref 174]) (ykc_208 (e := (0, .iadd, 0)) rfl) (by rw [← e2111]; rfl) rfl ?_
          refine w_alu (pc' := 102) (st' := [.int (Int32.ofInt 0), .int (zn (24 + (P + k))), .ref 174]) (ykc_208 (e := (0, .iconst 0, 0)) rfl) rfl rfl ?_
          refine w_ias (pc' := 103) (k := 24 + (P + k)) (ykc_208 (e := (5, .iastore, 0)) rfl) (by omega) rfl (fun ph2113 u2112 => ?_)
          refine w_load (pc' := 104) (v := .ref 170) (m := 1) (ykc_208 (e := (2, .aload_n kF0, 0)) rfl) rfl rfl ?_
          refine w_alu (pc' := 105) (st' := [.ref 170, .ref 170]) (ykc_208 (e := (0, .dup, 0)) rfl) rfl rfl ?_
          refine w_gf (pc' := 108) (v := .int (zn (P + k))) (ykc_208 (e := (5, .getfield 130, 0)) rfl) rfl ((u2112.2.1 170 5 (fun q => absurd q.1 (by decide))).trans ((u2109.2.1 170 5 (fun q => absurd q.1 (by decide))).trans ((u2104.2.1 170 5 (fun q => absurd q.1 (by decide))).trans ((u2099.2.1 170 5 (fun q => absurd q.1 (by decide))).trans hN2.1)))) rfl ?_
          refine w_alu (pc' := 109) (st' := [.int (Int32.ofInt 1), .int (zn (P + k)), .ref 170]) (ykc_208 (e := (0, .iconst 1, 0)) rfl) rfl rfl ?_
          have e2114 : (zn (P + k)) + (Int32.ofInt 1) = zn (P + k + 1) := (zaddN (a := P + k) (b := 1) (znt (by omega)) c_5 (by omega)) 
          have te2114 := znt (k := P + k + 1) (by omega)
          refine w_alu (pc' := 110) (st' := [.int (zn (P + k + 1)), .ref 170]) (ykc_208 (e := (0, .iadd, 0)) rfl) (by rw [← e2114]; rfl) rfl ?_
          refine w_pf (pc' := 113) (ykc_208 (e := (5, .putfield 130, 0)) rfl) rfl rfl (fun ph2116 u2115 => ?_)
          have e2117 : (zn k) + Int32.ofInt 1 = zn (k + 1) := (zaddN (a := k) (b := 1) (znt (by omega)) c_5 (by omega))
          have te2117 := znt (k := k + 1) (by omega)
          refine w_store (pc' := 116) (L' := [some (.ref 170), some (.int z9), some (.int (zn (k + 1)))]) (st' := []) (m := 3) (ykc_208 (e := (3, .iinc 2 1, 0)) rfl) (by rw [← e2117]; rfl) rfl ?_
          refine w_gb (ykc_208 (e := (4, .goto (-95), 21)) rfl) (fun k2118 hk2118 => ?_)
          have hv3 := zNr_ad u2099 u2104 u2109 u2112 hv2
          exact ih k2118 hk2118 (k + 1) _ (by omega) (zFr_add (zFr_add (zFr_add (zFr_add (zFr_add hf u2099 (Or.inl (by simp))) u2104 (Or.inl (by simp))) u2109 (Or.inl (by simp))) u2112 (Or.inl (by simp))) u2115 (Or.inr (by simp))) ⟨u2115.1, by omega, ((u2115.2.1 170 6 (fun q => absurd q.2 (by decide))).trans ((u2112.2.1 170 6 (fun q => absurd q.1 (by decide))).trans ((u2109.2.1 170 6 (fun q => absurd q.1 (by decide))).trans ((u2104.2.1 170 6 (fun q => absurd q.1 (by decide))).trans ((u2099.2.1 170 6 (fun q => absurd q.1 (by decide))).trans hN2.2.2.1))))), hG8⟩ (zNr_F (zFr_st u2115 (Or.inr (by simp)) : zFr [] [(170, 5)] _ _) (by simp) (by simp) hv3)
    exact hl n 0 ph2092 (Nat.zero_le _) zFr_refl (zMp_F f1 (by simp) (by simp) (by simp) hN) (zNr_F f1 (by simp) (by simp) hv)
  
theorem zm_things {ph : pm_H} {ln : Nat} {t : Nat → Nat} {R C P G u ch hn : Nat} {rk : Nat → Bool} {v : Nat → Nat} {w : Nat → Nat → Nat} {kp : Nat → Bool} {kc : Nat → Nat} {sv : Nat → Nat → Nat} (hS : zSh ph) (hn14 : zc ph 170 14 = some (.int (zn ln))) (hn80 : ln ≤ 80) (gtm : ∀ i, i < ln → zc ph 176 i = some (.int (zn (t i))) ∧ t i < 256) (hK : zKM ph R C rk P G v u w ch kp kc sv hn) (hch : ch < 1000) : zM 209 [.ref 170] ph (fun v0 q => ∃ z : Int32, v0 = some (.int z) ∧ z.toInt = zLa R C rk 2 3 ln t (8 - G) ∧ ((zLa R C rk 2 3 ln t (8 - G) ≤ 0 ∧ zKM q R C rk P G v u w ch kp kc sv hn) ∨ (∃ k : Nat, 0 < k ∧ (k : Int) = zLa R C rk 2 3 ln t (8 - G) ∧ zKM q R C rk P (G + k) (zGv C t G v k) 0 w (ch + 1) kp kc sv hn))) := by
  obtain ⟨Q, hQ⟩ : ∃ Q : Option Value → pm_H → Prop, Q = (fun v0 q => ∃ z : Int32, v0 = some (.int z) ∧ z.toInt = zLa R C rk 2 3 ln t (8 - G) ∧ ((zLa R C rk 2 3 ln t (8 - G) ≤ 0 ∧ zKM q R C rk P G v u w ch kp kc sv hn) ∨ (∃ k : Nat, 0 < k ∧ (k : Int) = zLa R C rk 2 3 ln t (8 - G) ∧ zKM q R C rk P (G + k) (zGv C t G v k) 0 w (ch + 1) kp kc sv hn))) := ⟨_, rfl⟩
  rw [← hQ]
  refine zM_mk fun n D => ?_
  show zW n D 209 Q 0 [some (.ref 170), none, none] [] ph
  have c_0 : ((Int8.ofInt 23).toInt32).toInt = 23 := by decide
  have c_1 : ((Int8.ofInt 32).toInt32).toInt = 32 := by decide
  have c_2 : (Int32.ofInt 0).toInt = 0 := by decide
  have c_3 : (Int32.ofInt 1).toInt = 1 := by decide
  obtain ⟨hL, hN, hv, hU, hk, hh⟩ := hK
  obtain ⟨gP, hP8, gG, hG8⟩ := id hN
  have tP := znt (k := P) (by omega)
  have tG := znt (k := G) (by omega)
  have hR37 : 3 ≤ R ∧ R ≤ 7 := ⟨hL.2.2.2.1, hL.2.2.2.2.1⟩
  have hC37 : 3 ≤ C ∧ C ≤ 7 := hL.2.2.2.2.2
  have hRC49 : R * C ≤ 49 := zRC49 hR37.2 hC37.2
  have hr := @zLa_r R C 2 3 ln (8 - G) rk t (by omega)
  refine w_load (pc' := 1) (v := .ref 170) (m := 1) (ykc_209 (e := (2, .aload_n kF0, 0)) rfl) rfl rfl ?_
  refine w_alu (pc' := 2) (st' := [.int (Int32.ofInt 0), .ref 170]) (ykc_209 (e := (0, .iconst 0, 0)) rfl) rfl rfl ?_
  refine w_pf (pc' := 5) (ykc_209 (e := (5, .putfield 3, 0)) rfl) rfl rfl (fun ph2120 u2119 => ?_)
  refine w_load (pc' := 6) (v := .ref 170) (m := 1) (ykc_209 (e := (2, .aload_n kF0, 0)) rfl) rfl rfl ?_
  refine w_alu (pc' := 7) (st' := [.int (Int32.ofInt 0), .ref 170]) (ykc_209 (e := (0, .iconst 0, 0)) rfl) rfl rfl ?_
  refine w_push (pc' := 9) (v := .int ((Int8.ofInt 23).toInt32)) (m := 2) (ykc_209 (e := (1, .bipush 23, 0)) rfl) rfl rfl ?_
  have f0 : zFr [] [(170, 0)] ph ph2120 := zFr_st u2119 (Or.inr (by simp))
  refine w_cv (as := [.ref 170, .int (Int32.ofInt 0), .int ((Int8.ofInt 23).toInt32)]) (r := []) (ykc_209 (e := (6, .invokevirtual 217, 0)) rfl) rfl rfl rfl rfl (zm_rlines2 (ln := ln) (t := t) (N := G) (zSh_F f0 (by decide +kernel) hS) (zMl_F f0 (by simp) (by simp) (by simp) (by simp) hL) ((f0.1 170 14 (by decide) (by decide)).trans hn14) hn80 (fun i hi => ⟨(f0.1 176 i (by decide) (by simp)).trans (gtm i hi).1, (gtm i hi).2⟩) ((f0.1 170 6 (by decide) (by decide)).trans gG) (by omega) (by omega)) (fun v2121 ph2122 hv => ?_)
  rcases hv with ⟨fr, z9, rfl, ⟨hneg, ez⟩ | ⟨hpos, ez, k9, ek9, rl20, hgl⟩⟩
  · have f1 : zFr [178] [(170, 0), (170, 14), (170, 15), (170, 16), (170, 17), (170, 20)] ph ph2122 := zFr_trans (zFr_mono f0 (by simp) (by simp)) (zFr_mono fr (by simp) (by simp))
    show zW n D 209 Q 12 [some (.ref 170), none, none] [.int z9] ph2122
    refine w_store (pc' := 13) (L' := [some (.ref 170), some (.int z9), none]) (st' := []) (m := 1) (ykc_209 (e := (3, .istore_n kF1, 0)) rfl) rfl rfl ?_
    refine w_load (pc' := 14) (v := .int z9) (m := 1) (ykc_209 (e := (2, .iload_n kF1, 0)) rfl) rfl rfl ?_
    refine w_zge (ykc_209 (e := (4, .ifCond .ge 5, 19)) rfl) rfl (fun q => by exfalso; omega) (fun b2123 => ?_)
    refine w_load (pc' := 18) (v := .int z9) (m := 1) (ykc_209 (e := (2, .iload_n kF1, 0)) rfl) rfl rfl ?_
    refine w_ret (v := (some (.int z9))) (ykc_209 (e := (7, .ireturn, 0)) rfl) (zr_v rfl) ?_
    rw [hQ]
    exact ⟨_, rfl, ez, Or.inl ⟨by omega, zMl_F f1 (by simp) (by simp) (by simp) (by simp) hL, zMp_F f1 (by simp) (by simp) (by simp) hN, zNr_F f1 (by simp) (by simp) hv, zMu_F f1 (by simp) (by simp) (by simp) hU, zMk_F f1 (by simp) (by simp) (by simp) hk, zMh_F f1 (by simp) (by simp) hh⟩⟩
  · have f1 : zFr [178] [(170, 0), (170, 14), (170, 15), (170, 16), (170, 17), (170, 20)] ph ph2122 := zFr_trans (zFr_mono f0 (by simp) (by simp)) (zFr_mono fr (by simp) (by simp))
    have h20 := rl20
    have tk9 := znt (k := k9) (by omega)
    show zW n D 209 Q 12 [some (.ref 170), none, none] [.int z9] ph2122
    refine w_store (pc' := 13) (L' := [some (.ref 170), some (.int z9), none]) (st' := []) (m := 1) (ykc_209 (e := (3, .istore_n kF1, 0)) rfl) rfl rfl ?_
    refine w_load (pc' := 14) (v := .int z9) (m := 1) (ykc_209 (e := (2, .iload_n kF1, 0)) rfl) rfl rfl ?_
    refine w_zge (ykc_209 (e := (4, .ifCond .ge 5, 19)) rfl) rfl (fun b2124 => ?_) (fun q => by exfalso; omega)
    refine w_alu (pc' := 20) (st' := [.int (Int32.ofInt 0)]) (ykc_209 (e := (0, .iconst 0, 0)) rfl) rfl rfl ?_
    refine w_store (pc' := 21) (L' := [some (.ref 170), some (.int z9), some (.int (Int32.ofInt 0))]) (st' := []) (m := 1) (ykc_209 (e := (3, .istore_n kF2, 0)) rfl) rfl rfl ?_
    have hl : ∀ (n : Nat), ∀ (k : Nat) (ph2 : pm_H), (k ≤ k9) → (zFr [174] [(170, 6)] ph2122 ph2) → (zMp ph2 P (G + k)) → (zNr ph2 174 0 (zGv C t G v k)) → zW n D 209 Q 21 [some (.ref 170), some (.int z9), some (.int (zn k))] [] ph2 := by
      intro n
      induction n using Nat.strongRecOn with
      | ind n ih =>
        intro k ph2 hk9 hf hN2 hv2
        have tk := znt (k := k) (by omega)
        have tc9 := znt (k := G + k) (by omega)
        refine w_load (pc' := 22) (v := .int (zn k)) (m := 1) (ykc_209 (e := (2, .iload_n kF2, 0)) rfl) rfl rfl ?_
        refine w_load (pc' := 23) (v := .ref 170) (m := 1) (ykc_209 (e := (2, .aload_n kF0, 0)) rfl) rfl rfl ?_
        refine w_gf (pc' := 26) (v := .int (zn k9)) (ykc_209 (e := (5, .getfield 197, 0)) rfl) rfl ((hf.1 170 20 (by decide) (by decide)).trans h20) rfl ?_
        refine w_ige (ykc_209 (e := (4, .if_icmp .ge 37, 63)) rfl) rfl (fun b2125 => ?_) (fun b2125 => ?_)
        · refine w_load (pc' := 64) (v := .ref 170) (m := 1) (ykc_209 (e := (2, .aload_n kF0, 0)) rfl) rfl rfl ?_
          have ek : k = k9 := by omega
          subst ek
          have f2 : zFr [174, 178] [(170, 0), (170, 5), (170, 6), (170, 14), (170, 15), (170, 16), (170, 17), (170, 20)] ph ph2 := zFr_trans (zFr_mono f1 (by simp) (by simp)) (zFr_mono hf (by simp) (by simp))
          refine w_cv (as := [.ref 170]) (r := []) (ykc_209 (e := (6, .invokevirtual 221, 0)) rfl) rfl rfl rfl rfl (zm_isNew (u := u) (ch := ch) (zSh_F f2 (by decide +kernel) hS) ((hf.1 170 20 (by decide) (by decide)).trans h20) (by omega) ((f2.1 170 27 (by decide) (by decide)).trans hU.1) hU.2.1 ((f2.1 170 7 (by decide) (by decide)).trans hk.1) hch) (fun v2126 ph2127 hv => ?_)
          obtain ⟨rfl, fn, g27, g7⟩ := hv
          show zW n D 209 Q 67 [some (.ref 170), some (.int z9), some (.int (zn k))] [.int (zn k)] ph2127
          refine w_ret (v := (some (.int (zn k)))) (ykc_209 (e := (7, .ireturn, 0)) rfl) (zr_v rfl) ?_
          have f3 : zFr [174, 178] [(170, 0), (170, 5), (170, 6), (170, 7), (170, 14), (170, 15), (170, 16), (170, 17), (170, 20), (170, 27)] ph _ := zFr_trans (zFr_mono f2 (by simp) (by simp)) (zFr_mono fn (by simp) (by simp))
          have hL3 := zMl_F f3 (by simp) (by simp) (by simp) (by simp) hL
          have hN3 := zMp_F fn (by simp) (by simp) (by simp) hN2
          have hv3 := zNr_F fn (by simp) (by simp) hv2
          have hh3 := zMh_F f3 (by simp) (by simp) hh
          rw [hQ]
          refine ⟨_, rfl, by omega, ?_⟩
          by_cases e : 0 < k
          · rw [if_pos e] at g27 g7
            refine Or.inr ⟨k, e, by omega, hL3, hN3, hv3, ⟨g27, by decide, fun i hi => absurd hi (Nat.not_lt_zero i)⟩, ⟨g7, by omega, fun i hi => ?_⟩, hh3⟩
            obtain ⟨k1, k2, k3, k4⟩ := hk.2.2 i hi
            exact ⟨(f3.1 198 i (by decide) (by simp)).trans k1, (f3.1 199 i (by decide) (by simp)).trans k2, by omega, fun h => zNr_F f3 (by simp) (by simp) (k4 h)⟩
          · obtain rfl : k = 0 := by omega
            rw [if_neg e] at g27 g7
            refine Or.inl ⟨by omega, hL3, hN3, hv3, ⟨g27, hU.2.1, zUr_F f3 (by simp) (by simp) hU.2.2⟩, ⟨g7, hk.2.1, fun i hi => ?_⟩, hh3⟩
            obtain ⟨k1, k2, k3, k4⟩ := hk.2.2 i hi
            exact ⟨(f3.1 198 i (by decide) (by simp)).trans k1, (f3.1 199 i (by decide) (by simp)).trans k2, k3, fun h => zNr_F f3 (by simp) (by simp) (k4 h)⟩
        · have hlt : k < k9 := by omega
          refine w_load (pc' := 30) (v := .ref 170) (m := 1) (ykc_209 (e := (2, .aload_n kF0, 0)) rfl) rfl rfl ?_
          refine w_gf (pc' := 33) (v := .ref 174) (ykc_209 (e := (5, .getfield 41, 0)) rfl) rfl ((hf.1 170 11 (by decide) (by decide)).trans ((f1.1 170 11 (by decide) (by decide)).trans (zsg hS zs_170_11))) rfl ?_
          refine w_push (pc' := 35) (v := .int ((Int8.ofInt 32).toInt32)) (m := 2) (ykc_209 (e := (1, .bipush 32, 0)) rfl) rfl rfl ?_
          refine w_load (pc' := 36) (v := .ref 170) (m := 1) (ykc_209 (e := (2, .aload_n kF0, 0)) rfl) rfl rfl ?_
          refine w_gf (pc' := 39) (v := .int (zn (G + k))) (ykc_209 (e := (5, .getfield 133, 0)) rfl) rfl hN2.2.2.1 rfl ?_
          have e2128 : ((Int8.ofInt 32).toInt32) + (zn (G + k)) = zn (32 + (G + k)) := (zaddN (a := 32) (b := G + k) c_1 (znt (by omega)) (by omega)) 
          have te2128 := znt (k := 32 + (G + k)) (by omega)
          refine w_alu (pc' := 40) (st' := [.int (zn (32 + (G + k))), .ref 174]) (ykc_209 (e := (0, .iadd, 0)) rfl) (by rw [← e2128]; rfl) rfl ?_
          refine w_load (pc' := 41) (v := .ref 170) (m := 1) (ykc_209 (e := (2, .aload_n kF0, 0)) rfl) rfl rfl ?_
          refine w_gf (pc' := 44) (v := .ref 178) (ykc_209 (e := (5, .getfield 53, 0)) rfl) rfl ((hf.1 170 19 (by decide) (by decide)).trans ((f1.1 170 19 (by decide) (by decide)).trans (zsg hS zs_170_19))) rfl ?_
          refine w_load (pc' := 45) (v := .int (zn k)) (m := 1) (ykc_209 (e := (2, .iload_n kF2, 0)) rfl) rfl rfl ?_
          refine w_ialk (pc' := 46) (k := k) (ykc_209 (e := (5, .iaload, 0)) rfl) ((hf.1 178 k (by decide) (by simp)).trans (hgl k hlt).2) (by omega) rfl ?_
          refine w_ias (pc' := 47) (k := 32 + (G + k)) (ykc_209 (e := (5, .iastore, 0)) rfl) (by omega) rfl (fun ph2130 u2129 => ?_)
          refine w_load (pc' := 48) (v := .ref 170) (m := 1) (ykc_209 (e := (2, .aload_n kF0, 0)) rfl) rfl rfl ?_
          refine w_alu (pc' := 49) (st' := [.ref 170, .ref 170]) (ykc_209 (e := (0, .dup, 0)) rfl) rfl rfl ?_
          refine w_gf (pc' := 52) (v := .int (zn (G + k))) (ykc_209 (e := (5, .getfield 133, 0)) rfl) rfl ((u2129.2.1 170 6 (fun q => absurd q.1 (by decide))).trans hN2.2.2.1) rfl ?_
          refine w_alu (pc' := 53) (st' := [.int (Int32.ofInt 1), .int (zn (G + k)), .ref 170]) (ykc_209 (e := (0, .iconst 1, 0)) rfl) rfl rfl ?_
          have e2131 : (zn (G + k)) + (Int32.ofInt 1) = zn (G + k + 1) := (zaddN (a := G + k) (b := 1) (znt (by omega)) c_3 (by omega)) 
          have te2131 := znt (k := G + k + 1) (by omega)
          refine w_alu (pc' := 54) (st' := [.int (zn (G + k + 1)), .ref 170]) (ykc_209 (e := (0, .iadd, 0)) rfl) (by rw [← e2131]; rfl) rfl ?_
          refine w_pf (pc' := 57) (ykc_209 (e := (5, .putfield 133, 0)) rfl) rfl rfl (fun ph2133 u2132 => ?_)
          have e2134 : (zn k) + Int32.ofInt 1 = zn (k + 1) := (zaddN (a := k) (b := 1) (znt (by omega)) c_3 (by omega))
          have te2134 := znt (k := k + 1) (by omega)
          refine w_store (pc' := 60) (L' := [some (.ref 170), some (.int z9), some (.int (zn (k + 1)))]) (st' := []) (m := 3) (ykc_209 (e := (3, .iinc 2 1, 0)) rfl) (by rw [← e2134]; rfl) rfl ?_
          refine w_gb (ykc_209 (e := (4, .goto (-39), 21)) rfl) (fun k2135 hk2135 => ?_)
          have hv3 := zNr_u u2129 hv2
          exact ih k2135 hk2135 (k + 1) _ (by omega) (zFr_add (zFr_add hf u2129 (Or.inl (by simp))) u2132 (Or.inr (by simp))) ⟨((u2132.2.1 170 5 (fun q => absurd q.2 (by decide))).trans ((u2129.2.1 170 5 (fun q => absurd q.1 (by decide))).trans hN2.1)), hP8, u2132.1, by omega⟩ (zNr_F (zFr_st u2132 (Or.inr (by simp)) : zFr [] [(170, 6)] _ _) (by simp) (by simp) hv3)
    exact hl n 0 ph2122 (Nat.zero_le _) zFr_refl (zMp_F f1 (by simp) (by simp) (by simp) hN) (zNr_F f1 (by simp) (by simp) hv)
  
end
section
/-! the RULE's reading, on paper: the class's automaton, the reference's descent, and that they agree -/
/-- how an operator binds, by its code; 0 an opening bracket -/
def zbd (o : Nat) : Nat := if o = 0 then 0 else if o < 2003 then 1 else if o < 2005 then 2 else if o < 3000 then 3 else 4
def zrl (b : Nat) : List Nat → List Nat → List Nat × List Nat
  | [], C => ([], C)
  | o :: W, C => if b ≤ zbd o then zrl b W (o :: C) else (o :: W, C)
/-- an operator's code by its sign, or 0; a letter's place, or 8 -/
def zop (c : Nat) : Nat := if c = 60 then 2000 else if c = 62 then 2001 else if c = 61 then 2002 else if c = 43 then 2003 else if c = 45 then 2004 else if c = 42 then 2005 else if c = 47 then 2006 else 0
def zlt (c : Nat) : Nat := if c = 98 then 0 else if c = 108 then 1 else if c = 107 then 2 else if c = 102 then 3 else if c = 114 then 4 else if c = 99 then 5 else if c = 110 then 6 else if c = 112 then 7 else 8
def zub (f : Nat → Bool) (i : Nat) (x : Bool) : Nat → Bool := fun j => if j = i then x else f j
/-- codes, what waits (both: the latest first), where a comparison was, brackets, digits, whether a thing is wanted -/
abbrev zAs : Type := List Nat × List Nat × (Nat → Bool) × Nat × Nat × Bool
def zdi (c : Nat) : Bool := decide (48 ≤ c ∧ c ≤ 57)
/-- one sign more -/
def zstep (c : Nat) (s : zAs) : Option zAs := match s with
  | (C, W, cm, dp, dg, wt) =>
    if zdi c = true then
      (if wt = true then some ((c - 48) :: C, W, cm, dp, 1, false)
       else match C with
        | [] => none
        | x :: C => if 1 ≤ dg ∧ dg ≤ 2 then some ((10 * x + (c - 48)) :: C, W, cm, dp, dg + 1, false) else none)
    else if wt = true then
      (if c = 45 then some (C, 3000 :: W, cm, dp, 0, true)
       else if c = 40 then (if dp < 4 then some (C, 0 :: W, zub cm (dp + 1) false, dp + 1, 0, true) else none)
       else if zlt c < 8 then some ((1000 + zlt c) :: C, W, cm, dp, 0, false) else none)
    else if c = 41 then
      (if dp = 0 then none else some ((zrl 1 W C).2, (zrl 1 W C).1.tail, cm, dp - 1, 0, false))
    else if zop c = 0 then none
    else if zbd (zop c) = 1 ∧ cm dp = true then none
    else some ((zrl (zbd (zop c)) W C).2, zop c :: (zrl (zbd (zop c)) W C).1, (if zbd (zop c) = 1 then zub cm dp true else cm), dp, 0, true)
/-- k signs from p on -/
def zrn (t : Nat → Nat) (s : zAs) (p : Nat) : Nat → Option zAs
  | 0 => some s
  | k + 1 => (zrn t s p k).bind (zstep (t (p + k)))
theorem zrn_add {t : Nat → Nat} {s : zAs} {p k m : Nat} : zrn t s p (k + m) = (zrn t s p k).bind (fun q => zrn t q (p + k) m) := by
  induction m with
  | zero =>
    show zrn t s p k = (zrn t s p k).bind (fun q => some q)
    cases zrn t s p k <;> rfl
  | succ m ih =>
    show (zrn t s p (k + m)).bind (zstep (t (p + (k + m)))) = _
    rw [ih]
    cases zrn t s p k with
    | none => rfl
    | some q =>
      show (zrn t q (p + k) m).bind _ = (zrn t q (p + k) m).bind (zstep (t (p + k + m)))
      rw [Nat.add_assoc]
theorem zrn_1 {t : Nat → Nat} {s s' : zAs} {p : Nat} (h : zstep (t p) s = some s') : zrn t s p 1 = some s' := by
  show (some s).bind (zstep (t (p + 0))) = some s'
  rw [Nat.add_zero]
  exact h
theorem zrn_t {t : Nat → Nat} {s s' s'' : zAs} {a b c : Nat} (h1 : a ≤ b) (h2 : b ≤ c) (g1 : zrn t s a (b - a) = some s') (g2 : zrn t s' b (c - b) = some s'') : zrn t s a (c - a) = some s'' := by
  rw [show c - a = (b - a) + (c - b) by omega, zrn_add, g1]
  show zrn t s' (a + (b - a)) (c - b) = _
  rw [show a + (b - a) = b by omega]
  exact g2
/-- how many digits a number at a has, 3 at most; its first k digits -/
def zdc (b : Nat) (t : Nat → Nat) (a : Nat) : Nat := if a + 1 < b ∧ zdi (t (a + 1)) = true then (if a + 2 < b ∧ zdi (t (a + 2)) = true then 3 else 2) else 1
def znv (t : Nat → Nat) (a : Nat) : Nat → Nat
  | 0 => 0
  | k + 1 => 10 * znv t a k + (t (a + k) - 48)
/-- an operator of a rank -/
def zrk2 (r c : Nat) : Bool := decide (zop c ≠ 0 ∧ zbd (zop c) = r + 1)
/-- the descent: ranks 0 .. 3 (3: a thing), 4 .. 6: what comes behind one of rank 0 .. 2; from a, brackets, codes -/
def zde (b : Nat) (t : Nat → Nat) : Nat → Nat → Nat → Nat → List Nat → Option (Bool × Nat × List Nat)
  | 0, _, _, _, _ => none
  | f + 1, m, a, ns, cs =>
    if m = 3 then
      (if a < b ∧ t a = 45 then (zde b t f 3 (a + 1) ns cs).map (fun x => (x.1, x.2.1, 3000 :: x.2.2))
       else if a < b ∧ zdi (t a) = true then some (true, a + zdc b t a, znv t a (zdc b t a) :: cs)
       else if a < b ∧ zlt (t a) < 8 then some (true, a + 1, (1000 + zlt (t a)) :: cs)
       else if ns < 4 ∧ a < b ∧ t a = 40 then (zde b t f 0 (a + 1) (ns + 1) cs).map (fun x => if x.1 = true ∧ x.2.1 < b ∧ t x.2.1 = 41 then (true, x.2.1 + 1, x.2.2) else (false, x.2.1, x.2.2))
       else some (false, a, cs))
    else if m < 3 then (zde b t f (m + 1) a ns cs).bind (fun x => if x.1 = true then zde b t f (m + 4) x.2.1 ns x.2.2 else some x)
    else if a < b ∧ zrk2 (m - 4) (t a) = true then (zde b t f (m - 3) (a + 1) ns cs).bind (fun x => if x.1 = true then (if m = 4 then some (true, x.2.1, zop (t a) :: x.2.2) else zde b t f m x.2.1 ns (zop (t a) :: x.2.2)) else some x)
    else some (true, a, cs)
/-! what is released -/
theorem zrl_all {b : Nat} : ∀ {W2 : List Nat} {W C : List Nat}, (∀ o ∈ W2, b ≤ zbd o) → (∀ o, W.head? = some o → zbd o < b) → zrl b (W2 ++ W) C = (W, W2.reverse ++ C)
  | [], [], _, _, _ => rfl
  | [], o :: W, C, _, h => by
    show (if b ≤ zbd o then zrl b W (o :: C) else (o :: W, C)) = _
    rw [if_neg (Nat.not_le.mpr (h o rfl))]
    rfl
  | o :: W2, W, C, h1, h2 => by
    show (if b ≤ zbd o then zrl b (W2 ++ W) (o :: C) else _) = _
    rw [if_pos (h1 o List.mem_cons_self), zrl_all (fun q hq => h1 q (List.mem_cons_of_mem _ hq)) h2, List.reverse_cons, List.append_assoc]
    rfl
theorem zbd_op {c : Nat} (h : zop c ≠ 0) : 1 ≤ zbd (zop c) ∧ zbd (zop c) ≤ 3 := by
  unfold zop at h ⊢
  repeat' split
  all_goals first | decide | (exfalso; simp_all)
theorem zop_nd {c : Nat} (h : zop c ≠ 0) : zdi c = false ∧ c ≠ 41 := by
  unfold zop at h
  unfold zdi
  repeat' split at h
  all_goals first | (exfalso; exact h rfl) | (subst_vars; decide)
theorem zlt_nd {c : Nat} (h : zlt c < 8) : zdi c = false ∧ c ≠ 45 ∧ c ≠ 40 := by
  unfold zlt at h
  unfold zdi
  repeat' split at h
  all_goals first | (exfalso; omega) | (subst_vars; decide)
/-! single steps -/
section ZSP
variable {C W : List Nat} {cm : Nat → Bool} {dp dg c : Nat}
theorem zstep_d1 (h : zdi c = true) : zstep c (C, W, cm, dp, dg, true) = some ((c - 48) :: C, W, cm, dp, 1, false) := by
  unfold zstep
  simp [h]
theorem zstep_d2 {x : Nat} (h : zdi c = true) (hd : 1 ≤ dg ∧ dg ≤ 2) : zstep c (x :: C, W, cm, dp, dg, false) = some ((10 * x + (c - 48)) :: C, W, cm, dp, dg + 1, false) := by
  unfold zstep
  simp [h, hd]
theorem zstep_d0 (h : zdi c = true) (hd : dg = 0 ∨ 3 ≤ dg) : zstep c (C, W, cm, dp, dg, false) = none := by
  unfold zstep
  cases C with
  | nil => simp [h]
  | cons x C =>
    have : ¬ (1 ≤ dg ∧ dg ≤ 2) := by omega
    simp [h, this]
theorem zstep_m : zstep 45 (C, W, cm, dp, dg, true) = some (C, 3000 :: W, cm, dp, 0, true) := by
  unfold zstep
  simp [zdi]
theorem zstep_l (h : zlt c < 8) : zstep c (C, W, cm, dp, dg, true) = some ((1000 + zlt c) :: C, W, cm, dp, 0, false) := by
  obtain ⟨h1, h2, h3⟩ := zlt_nd h
  unfold zstep
  simp [h1, h2, h3, h]
theorem zstep_b (h : dp < 4) : zstep 40 (C, W, cm, dp, dg, true) = some (C, 0 :: W, zub cm (dp + 1) false, dp + 1, 0, true) := by
  unfold zstep
  simp [zdi, h]
theorem zstep_n (h1 : c ≠ 45) (h2 : zdi c = false) (h3 : ¬ zlt c < 8) (h4 : ¬ (dp < 4 ∧ c = 40)) : zstep c (C, W, cm, dp, dg, true) = none := by
  unfold zstep
  by_cases e : c = 40
  · have : ¬ dp < 4 := fun q => h4 ⟨q, e⟩
    simp [h1, h2, e, this, zdi]
  · simp [h1, h2, h3, e]
theorem zstep_c (h : dp ≠ 0) : zstep 41 (C, W, cm, dp, dg, false) = some ((zrl 1 W C).2, (zrl 1 W C).1.tail, cm, dp - 1, 0, false) := by
  unfold zstep
  simp [zdi, h]
theorem zstep_o (h : zop c ≠ 0) (hc : ¬ (zbd (zop c) = 1 ∧ cm dp = true)) : zstep c (C, W, cm, dp, dg, false) = some ((zrl (zbd (zop c)) W C).2, zop c :: (zrl (zbd (zop c)) W C).1, (if zbd (zop c) = 1 then zub cm dp true else cm), dp, 0, true) := by
  obtain ⟨h1, h2⟩ := zop_nd h
  unfold zstep
  simp [h1, h2, h, hc]
theorem zstep_x (h1 : zdi c = true → dg = 0 ∨ 3 ≤ dg) (h2 : c = 41 → dp = 0) (h3 : zop c ≠ 0 → zbd (zop c) = 1 ∧ cm dp = true) : zstep c (C, W, cm, dp, dg, false) = none := by
  cases hd : zdi c with
  | true => exact zstep_d0 hd (h1 hd)
  | false =>
    unfold zstep
    by_cases e : c = 41
    · simp [hd, e, h2 e, zdi]
    · by_cases e2 : zop c = 0
      · simp [hd, e, e2]
      · have := h3 e2
        simp [hd, e, e2, this]
end ZSP
/-! the two readings agree -/
/-- behind one of rank r that was read well: what may not come -/
def zNx (b : Nat) (t : Nat → Nat) (r a dg : Nat) (cx : Bool) : Prop := a < b → (zdi (t a) = true → dg = 0 ∨ 3 ≤ dg) ∧ (zop (t a) ≠ 0 → zbd (zop (t a)) ≤ r ∨ (zbd (zop (t a)) = 1 ∧ cx = true))
/-- from s at a the automaton comes to a', with codes cs2 at last, all that waits binding more than r -/
def zGo2 (b : Nat) (t : Nat → Nat) (s : zAs) (r a ns : Nat) (W : List Nat) (cm : Nat → Bool) (a2 : Nat) (cs2 : List Nat) : Prop := a ≤ a2 ∧ a2 ≤ b ∧ ∃ C2 W2 cm2 dg2, zrn t s a (a2 - a) = some (C2, W2 ++ W, cm2, ns, dg2, false) ∧ cs2 = W2.reverse ++ C2 ∧ (∀ o ∈ W2, r + 1 ≤ zbd o) ∧ (∀ i, i < ns → cm2 i = cm i) ∧ (0 < r → cm2 ns = cm ns) ∧ zNx b t r a2 dg2 (cm2 ns)
/-- or it stops at a2 -/
def zSt2 (b : Nat) (t : Nat → Nat) (s : zAs) (a a2 : Nat) : Prop := a ≤ a2 ∧ a2 ≤ b ∧ ∃ s2, zrn t s a (a2 - a) = some s2 ∧ (a2 < b → zstep (t a2) s2 = none) ∧ (a2 = b → s2.2.2.2.2.2 = true ∨ 0 < s2.2.2.2.1)
theorem zSt2_t {b : Nat} {t : Nat → Nat} {s s' : zAs} {a a1 a2 : Nat} (h1 : a ≤ a1) (g : zrn t s a (a1 - a) = some s') (h : zSt2 b t s' a1 a2) : zSt2 b t s a a2 := by
  obtain ⟨k1, k2, s2, k3, k4⟩ := h
  exact ⟨by omega, k2, s2, zrn_t h1 k1 g k3, k4⟩
theorem zub_n {f : Nat → Bool} {i j : Nat} {x : Bool} (h : j ≠ i) : zub f i x j = f j := if_neg h
theorem zub_e {f : Nat → Bool} {i : Nat} {x : Bool} : zub f i x i = x := if_pos rfl
/-- a number -/
theorem znum_run {b : Nat} {t : Nat → Nat} {a ns dg : Nat} {cs W : List Nat} {cm : Nat → Bool} (ha : a < b) (hd : zdi (t a) = true) : zGo2 b t (cs, W, cm, ns, dg, true) 3 a ns W cm (a + zdc b t a) (znv t a (zdc b t a) :: cs) := by
  have s1 := zrn_1 (t := t) (s := (cs, W, cm, ns, dg, true)) (p := a) (zstep_d1 (C := cs) (W := W) (cm := cm) (dp := ns) (dg := dg) hd)
  have nx : ∀ k, 1 ≤ k → a + k ≤ b → (a + k < b → zdi (t (a + k)) = true → k = 3) → zNx b t 3 (a + k) k (cm ns) := fun k h1 h2 h3 hlt => ⟨fun q => by have := h3 hlt q; omega, fun q => Or.inl (zbd_op q).2⟩
  by_cases e1 : a + 1 < b ∧ zdi (t (a + 1)) = true
  · have s2 : zrn t (cs, W, cm, ns, dg, true) a 2 = some ((10 * (t a - 48) + (t (a + 1) - 48)) :: cs, W, cm, ns, 2, false) := by
      show (zrn t _ a 1).bind (zstep (t (a + 1))) = _
      rw [s1]
      exact zstep_d2 e1.2 (by decide)
    by_cases e2 : a + 2 < b ∧ zdi (t (a + 2)) = true
    · have e : zdc b t a = 3 := by unfold zdc; rw [if_pos e1, if_pos e2]
      have s3 : zrn t (cs, W, cm, ns, dg, true) a 3 = some ((10 * (10 * (t a - 48) + (t (a + 1) - 48)) + (t (a + 2) - 48)) :: cs, W, cm, ns, 3, false) := by
        show (zrn t _ a 2).bind (zstep (t (a + 2))) = _
        rw [s2]
        exact zstep_d2 e2.2 (by decide)
      rw [e]
      refine ⟨by omega, by omega, _, [], cm, 3, by rw [show a + 3 - a = 3 by omega]; exact s3, ?_, fun o h => absurd h List.not_mem_nil, fun _ _ => rfl, fun _ => rfl, nx 3 (by decide) (by omega) (fun _ _ => rfl)⟩
      show znv t a 3 :: cs = _
      simp [znv]
    · have e : zdc b t a = 2 := by unfold zdc; rw [if_pos e1, if_neg e2]
      rw [e]
      refine ⟨by omega, by omega, _, [], cm, 2, by rw [show a + 2 - a = 2 by omega]; exact s2, ?_, fun o h => absurd h List.not_mem_nil, fun _ _ => rfl, fun _ => rfl, nx 2 (by decide) (by omega) (fun h q => absurd ⟨h, q⟩ e2)⟩
      show znv t a 2 :: cs = _
      simp [znv]
  · have e : zdc b t a = 1 := by unfold zdc; rw [if_neg e1]
    rw [e]
    refine ⟨by omega, by omega, _, [], cm, 1, by rw [show a + 1 - a = 1 by omega]; exact s1, ?_, fun o h => absurd h List.not_mem_nil, fun _ _ => rfl, fun _ => rfl, nx 1 (by decide) (by omega) (fun h q => absurd ⟨h, q⟩ e1)⟩
    show znv t a 1 :: cs = _
    simp [znv]
/-- what the reading of m says of the automaton -/
def zSim (b : Nat) (t : Nat → Nat) (f : Nat) : Prop :=
  (∀ (r a ns dg : Nat) (cs W : List Nat) (cm : Nat → Bool) (ok : Bool) (a2 : Nat) (cs2 : List Nat), r ≤ 3 → a ≤ b → (r < 3 → ∀ o, W.head? = some o → zbd o ≤ r) → (r = 0 → cm ns = false) → zde b t f r a ns cs = some (ok, a2, cs2) → (ok = true → zGo2 b t (cs, W, cm, ns, dg, true) r a ns W cm a2 cs2) ∧ (ok = false → zSt2 b t (cs, W, cm, ns, dg, true) a a2)) ∧
  (∀ (r a ns dg : Nat) (C1 W1 W : List Nat) (cm : Nat → Bool) (ok : Bool) (a2 : Nat) (cs2 : List Nat), r < 3 → a ≤ b → (∀ o, W.head? = some o → zbd o ≤ r) → (r = 0 → cm ns = false) → (∀ o ∈ W1, r + 1 ≤ zbd o) → zNx b t (r + 1) a dg (cm ns) → zde b t f (r + 4) a ns (W1.reverse ++ C1) = some (ok, a2, cs2) → (ok = true → zGo2 b t (C1, W1 ++ W, cm, ns, dg, false) r a ns W cm a2 cs2) ∧ (ok = false → zSt2 b t (C1, W1 ++ W, cm, ns, dg, false) a a2))
end
section
/-! the two readings agree: the proof -/
section ZSM
variable {b : Nat} {t : Nat → Nat}
theorem zsim_3 {f : Nat} (ih : zSim b t f) {a ns dg : Nat} {cs W : List Nat} {cm : Nat → Bool} {ok : Bool} {a2 : Nat} {cs2 : List Nat} (hab : a ≤ b) (h : zde b t (f + 1) 3 a ns cs = some (ok, a2, cs2)) : (ok = true → zGo2 b t (cs, W, cm, ns, dg, true) 3 a ns W cm a2 cs2) ∧ (ok = false → zSt2 b t (cs, W, cm, ns, dg, true) a a2) := by
  unfold zde at h
  rw [if_pos rfl] at h
  by_cases e1 : a < b ∧ t a = 45
  · rw [if_pos e1] at h
    have s1 : zrn t (cs, W, cm, ns, dg, true) a (a + 1 - a) = some (cs, 3000 :: W, cm, ns, 0, true) := by
      rw [show a + 1 - a = 1 by omega]
      refine zrn_1 ?_
      rw [e1.2]
      exact zstep_m
    cases hx : zde b t f 3 (a + 1) ns cs with
    | none => rw [hx] at h; cases h
    | some x =>
      rw [hx] at h
      obtain ⟨ok1, a1, c1⟩ := x
      have h : some (ok1, a1, 3000 :: c1) = some (ok, a2, cs2) := h
      cases h
      obtain ⟨g1, g2⟩ := ih.1 3 (a + 1) ns 0 cs (3000 :: W) cm ok a2 c1 (by decide) (by omega) (fun q => absurd q (by decide)) (fun q => absurd q (by decide)) hx
      refine ⟨fun hok => ?_, fun hok => zSt2_t (by omega) s1 (g2 hok)⟩
      obtain ⟨k1, k2, C2, W2, cm2, dg2, k3, k4, k5, k6, k7, k8⟩ := g1 hok
      refine ⟨by omega, k2, C2, W2 ++ [3000], cm2, dg2, ?_, ?_, ?_, k6, k7, k8⟩
      · rw [List.append_assoc]
        exact zrn_t (by omega) k1 s1 k3
      · rw [k4, List.reverse_append]
        rfl
      · intro o ho
        rcases List.mem_append.mp ho with q | q
        · exact k5 o q
        · rw [List.mem_singleton.mp q]; decide
  · rw [if_neg e1] at h
    by_cases e2 : a < b ∧ zdi (t a) = true
    · rw [if_pos e2] at h
      cases h
      exact ⟨fun _ => znum_run e2.1 e2.2, fun q => absurd q (by decide)⟩
    · rw [if_neg e2] at h
      by_cases e3 : a < b ∧ zlt (t a) < 8
      · rw [if_pos e3] at h
        cases h
        refine ⟨fun _ => ⟨by omega, by omega, _, [], cm, 0, by rw [show a + 1 - a = 1 by omega]; exact zrn_1 (zstep_l e3.2), rfl, fun o q => absurd q List.not_mem_nil, fun _ _ => rfl, fun _ => rfl, fun _ => ⟨fun _ => Or.inl rfl, fun q => Or.inl (zbd_op q).2⟩⟩, fun q => absurd q (by decide)⟩
      · rw [if_neg e3] at h
        by_cases e4 : ns < 4 ∧ a < b ∧ t a = 40
        · rw [if_pos e4] at h
          have s1 : zrn t (cs, W, cm, ns, dg, true) a (a + 1 - a) = some (cs, 0 :: W, zub cm (ns + 1) false, ns + 1, 0, true) := by
            rw [show a + 1 - a = 1 by omega]
            refine zrn_1 ?_
            rw [e4.2.2]
            exact zstep_b e4.1
          cases hx : zde b t f 0 (a + 1) (ns + 1) cs with
          | none => rw [hx] at h; cases h
          | some x =>
            rw [hx] at h
            obtain ⟨ok1, a1, c1⟩ := x
            obtain ⟨g1, g2⟩ := ih.1 0 (a + 1) (ns + 1) 0 cs (0 :: W) (zub cm (ns + 1) false) ok1 a1 c1 (by decide) (by omega) (fun _ o ho => by rw [← Option.some.inj ho]; decide) (fun _ => zub_e) hx
            have h : (if ok1 = true ∧ a1 < b ∧ t a1 = 41 then (true, a1 + 1, c1) else (false, a1, c1)) = (ok, a2, cs2) := Option.some.inj h
            by_cases e5 : ok1 = true ∧ a1 < b ∧ t a1 = 41
            · rw [if_pos e5] at h
              obtain ⟨rfl, rfl, rfl⟩ : ok = true ∧ a2 = a1 + 1 ∧ cs2 = c1 := by
                cases h
                exact ⟨rfl, rfl, rfl⟩
              refine ⟨fun _ => ?_, fun q => absurd q (by decide)⟩
              obtain ⟨k1, k2, C2, W2, cm2, dg2, k3, k4, k5, k6, k7, k8⟩ := g1 e5.1
              have er := zrl_all (b := 1) (W2 := W2) (W := 0 :: W) (C := C2) k5 (fun o ho => by rw [← Option.some.inj ho]; decide)
              have s2 : zstep (t a1) (C2, W2 ++ 0 :: W, cm2, ns + 1, dg2, false) = some (cs2, W, cm2, ns, 0, false) := by
                rw [e5.2.2, zstep_c (by omega), er, k4]
                rfl
              refine ⟨by omega, by omega, cs2, [], cm2, 0, ?_, rfl, fun o q => absurd q List.not_mem_nil, fun i hi => (k6 i (by omega)).trans (zub_n (by omega)), fun _ => (k6 ns (by omega)).trans (zub_n (by omega)), fun _ => ⟨fun _ => Or.inl rfl, fun q => Or.inl (zbd_op q).2⟩⟩
              refine zrn_t (b := a1) (by omega) (by omega) (zrn_t (by omega) k1 s1 k3) ?_
              rw [show a1 + 1 - a1 = 1 by omega]
              exact zrn_1 s2
            · rw [if_neg e5] at h
              obtain ⟨rfl, rfl, rfl⟩ : ok = false ∧ a2 = a1 ∧ cs2 = c1 := by
                cases h
                exact ⟨rfl, rfl, rfl⟩
              refine ⟨fun q => absurd q (by decide), fun _ => ?_⟩
              cases ok1 with
              | false => exact zSt2_t (by omega) s1 (g2 rfl)
              | true =>
                obtain ⟨k1, k2, C2, W2, cm2, dg2, k3, k4, k5, k6, k7, k8⟩ := g1 rfl
                refine ⟨by omega, k2, _, zrn_t (by omega) k1 s1 k3, fun hlt => ?_, fun _ => Or.inr (Nat.succ_pos ns)⟩
                obtain ⟨n1, n2⟩ := k8 hlt
                refine zstep_x n1 (fun q => absurd ⟨rfl, hlt, q⟩ e5) (fun q => ?_)
                have := zbd_op q
                rcases n2 q with r | r
                · omega
                · exact r
        · rw [if_neg e4] at h
          cases h
          refine ⟨fun q => absurd q (by decide), fun _ => ⟨Nat.le_refl _, hab, _, by rw [Nat.sub_self]; rfl, fun hlt => ?_, fun _ => Or.inl rfl⟩⟩
          exact zstep_n (fun q => e1 ⟨hlt, q⟩) (Bool.eq_false_iff.mpr fun q => e2 ⟨hlt, q⟩) (fun q => e3 ⟨hlt, q⟩) (fun q => e4 ⟨q.1, hlt, q.2⟩)
theorem zsim_r {f : Nat} (ih : zSim b t f) {r a ns dg : Nat} {cs W : List Nat} {cm : Nat → Bool} {ok : Bool} {a2 : Nat} {cs2 : List Nat} (hr : r < 3) (hab : a ≤ b) (hW : ∀ o, W.head? = some o → zbd o ≤ r) (hc : r = 0 → cm ns = false) (h : zde b t (f + 1) r a ns cs = some (ok, a2, cs2)) : (ok = true → zGo2 b t (cs, W, cm, ns, dg, true) r a ns W cm a2 cs2) ∧ (ok = false → zSt2 b t (cs, W, cm, ns, dg, true) a a2) := by
  unfold zde at h
  rw [if_neg (by omega), if_pos hr] at h
  cases hx : zde b t f (r + 1) a ns cs with
  | none => rw [hx] at h; cases h
  | some x =>
    rw [hx] at h
    obtain ⟨ok1, a1, c1⟩ := x
    obtain ⟨g1, g2⟩ := ih.1 (r + 1) a ns dg cs W cm ok1 a1 c1 (by omega) hab (fun _ o ho => Nat.le_succ_of_le (hW o ho)) (fun q => absurd q (by omega)) hx
    have h : (if ok1 = true then zde b t f (r + 4) a1 ns c1 else some (ok1, a1, c1)) = some (ok, a2, cs2) := h
    cases ok1 with
    | false =>
      cases h
      exact ⟨fun q => absurd q (by decide), fun _ => g2 rfl⟩
    | true =>
      obtain ⟨k1, k2, C2, W2, cm2, dg2, k3, k4, k5, k6, k7, k8⟩ := g1 rfl
      rw [if_pos rfl, k4] at h
      obtain ⟨l1, l2⟩ := ih.2 r a1 ns dg2 C2 W2 W cm2 ok a2 cs2 hr k2 hW (fun q => (k7 (by omega)).trans (hc q)) (fun o ho => Nat.le_of_succ_le (k5 o ho)) k8 h
      refine ⟨fun hok => ?_, fun hok => zSt2_t k1 k3 (l2 hok)⟩
      obtain ⟨m1, m2, C3, W3, cm3, dg3, m3, m4, m5, m6, m7, m8⟩ := l1 hok
      exact ⟨by omega, m2, C3, W3, cm3, dg3, zrn_t k1 m1 k3 m3, m4, m5, fun i hi => (m6 i hi).trans (k6 i hi), fun q => (m7 q).trans (k7 (by omega)), m8⟩
theorem zsim_l {f : Nat} (ih : zSim b t f) {r a ns dg : Nat} {C1 W1 W : List Nat} {cm : Nat → Bool} {ok : Bool} {a2 : Nat} {cs2 : List Nat} (hr : r < 3) (hab : a ≤ b) (hW : ∀ o, W.head? = some o → zbd o ≤ r) (hc : r = 0 → cm ns = false) (hW1 : ∀ o ∈ W1, r + 1 ≤ zbd o) (hn : zNx b t (r + 1) a dg (cm ns)) (h : zde b t (f + 1) (r + 4) a ns (W1.reverse ++ C1) = some (ok, a2, cs2)) : (ok = true → zGo2 b t (C1, W1 ++ W, cm, ns, dg, false) r a ns W cm a2 cs2) ∧ (ok = false → zSt2 b t (C1, W1 ++ W, cm, ns, dg, false) a a2) := by
  unfold zde at h
  rw [if_neg (by omega), if_neg (by omega), show r + 4 - 4 = r by omega, show r + 4 - 3 = r + 1 by omega] at h
  by_cases e1 : a < b ∧ zrk2 r (t a) = true
  · rw [if_pos e1] at h
    obtain ⟨o1, o2⟩ := of_decide_eq_true e1.2
    have er := zrl_all (b := r + 1) (W2 := W1) (W := W) (C := C1) hW1 (fun o ho => Nat.lt_succ_of_le (hW o ho))
    have s1 : zrn t (C1, W1 ++ W, cm, ns, dg, false) a (a + 1 - a) = some (W1.reverse ++ C1, zop (t a) :: W, (if zbd (zop (t a)) = 1 then zub cm ns true else cm), ns, 0, true) := by
      rw [show a + 1 - a = 1 by omega]
      refine zrn_1 ?_
      rw [zstep_o o1 (fun q => by
        have h0 : r = 0 := by omega
        rw [hc h0] at q
        exact absurd q.2 (by decide)), o2, er]
    generalize hcm : (if zbd (zop (t a)) = 1 then zub cm ns true else cm) = cm' at s1
    have hlo : ∀ i, i < ns → cm' i = cm i := fun i hi => by
      rw [← hcm]
      split
      · exact zub_n (by omega)
      · rfl
    have hr1 : 0 < r → cm' ns = cm ns := fun q => by
      rw [← hcm, if_neg (by omega)]
    have hr0 : r = 0 → cm' ns = true := fun q => by
      rw [← hcm, if_pos (by omega)]
      exact zub_e
    cases hx : zde b t f (r + 1) (a + 1) ns (W1.reverse ++ C1) with
    | none => rw [hx] at h; cases h
    | some x =>
      rw [hx] at h
      obtain ⟨ok1, a1, c1⟩ := x
      obtain ⟨g1, g2⟩ := ih.1 (r + 1) (a + 1) ns 0 (W1.reverse ++ C1) (zop (t a) :: W) cm' ok1 a1 c1 (by omega) (by omega) (fun _ o ho => by rw [← Option.some.inj ho, o2]; exact Nat.le_refl _) (fun q => absurd q (by omega)) hx
      have h : (if ok1 = true then (if r + 4 = 4 then some (true, a1, zop (t a) :: c1) else zde b t f (r + 4) a1 ns (zop (t a) :: c1)) else some (ok1, a1, c1)) = some (ok, a2, cs2) := h
      cases ok1 with
      | false =>
        cases h
        exact ⟨fun q => absurd q (by decide), fun _ => zSt2_t (by omega) s1 (g2 rfl)⟩
      | true =>
        rw [if_pos rfl] at h
        obtain ⟨k1, k2, C2, W2, cm2, dg2, k3, k4, k5, k6, k7, k8⟩ := g1 rfl
        have k3 := zrn_t (by omega) k1 s1 k3
        have ew : W2 ++ zop (t a) :: W = (W2 ++ [zop (t a)]) ++ W := by rw [List.append_assoc]; rfl
        have ec : zop (t a) :: c1 = (W2 ++ [zop (t a)]).reverse ++ C2 := by rw [k4, List.reverse_append]; rfl
        have hb : ∀ o ∈ W2 ++ [zop (t a)], r + 1 ≤ zbd o := fun o ho => by
          rcases List.mem_append.mp ho with q | q
          · exact Nat.le_of_succ_le (k5 o q)
          · rw [List.mem_singleton.mp q, o2]; exact Nat.le_refl _
        rw [ew] at k3
        by_cases e2 : r = 0
        · rw [if_pos (by omega)] at h
          cases h
          refine ⟨fun _ => ⟨by omega, k2, C2, _, cm2, dg2, k3, ec, hb, fun i hi => (k6 i hi).trans (hlo i hi), fun q => absurd q (by omega), fun hlt => ⟨(k8 hlt).1, fun q => Or.inr ?_⟩⟩, fun q => absurd q (by decide)⟩
          have h1 := zbd_op q
          have h2 : cm2 ns = true := (k7 (by omega)).trans (hr0 e2)
          rcases (k8 hlt).2 q with g | g
          · exact ⟨by omega, h2⟩
          · exact ⟨g.1, h2⟩
        · rw [if_neg (by omega), ec] at h
          obtain ⟨l1, l2⟩ := ih.2 r a1 ns dg2 C2 (W2 ++ [zop (t a)]) W cm2 ok a2 cs2 hr k2 hW (fun q => absurd q e2) hb k8 h
          refine ⟨fun hok => ?_, fun hok => zSt2_t (by omega) k3 (l2 hok)⟩
          obtain ⟨m1, m2, C3, W3, cm3, dg3, m3, m4, m5, m6, m7, m8⟩ := l1 hok
          exact ⟨by omega, m2, C3, W3, cm3, dg3, zrn_t (by omega) m1 k3 m3, m4, m5, fun i hi => (m6 i hi).trans ((k6 i hi).trans (hlo i hi)), fun q => (m7 q).trans ((k7 (by omega)).trans (hr1 q)), m8⟩
  · rw [if_neg e1] at h
    cases h
    refine ⟨fun _ => ⟨Nat.le_refl _, hab, C1, W1, cm, dg, by rw [Nat.sub_self]; rfl, rfl, hW1, fun _ _ => rfl, fun _ => rfl, fun hlt => ⟨(hn hlt).1, fun q => ?_⟩⟩, fun q => absurd q (by decide)⟩
    rcases (hn hlt).2 q with g | g
    · refine Or.inl ?_
      have : zbd (zop (t a)) ≠ r + 1 := fun g2 => e1 ⟨hlt, decide_eq_true ⟨q, g2⟩⟩
      omega
    · exact Or.inr g
theorem zsim : ∀ f, zSim b t f := by
  intro f
  induction f with
  | zero =>
    constructor
    · intros; rename_i h; cases h
    · intros; rename_i h; cases h
  | succ f ih =>
    refine ⟨fun r a ns dg cs W cm ok a2 cs2 h1 h2 h3 h4 h => ?_, fun r a ns dg C1 W1 W cm ok a2 cs2 h1 h2 h3 h4 h5 h6 h => zsim_l ih h1 h2 h3 h4 h5 h6 h⟩
    by_cases e : r = 3
    · subst e; exact zsim_3 ih h2 h
    · exact zsim_r ih (by omega) h2 (h3 (by omega)) h4 h
/-- more fuel, the same -/
theorem zde_s : ∀ {f m a ns : Nat} {cs : List Nat} {x : Bool × Nat × List Nat}, zde b t f m a ns cs = some x → zde b t (f + 1) m a ns cs = some x := by
  intro f
  induction f with
  | zero => intro m a ns cs x h; cases h
  | succ f ih =>
    intro m a ns cs x h
    have hm : ∀ {m a ns cs} {g : Bool × Nat × List Nat → Bool × Nat × List Nat}, (zde b t f m a ns cs).map g = some x → (zde b t (f + 1) m a ns cs).map g = some x := fun {m a ns cs g} h => by
      cases hx : zde b t f m a ns cs with
      | none => rw [hx] at h; cases h
      | some y => rw [ih hx]; rw [hx] at h; exact h
    have hb : ∀ {m a ns cs} {g g' : Bool × Nat × List Nat → Option (Bool × Nat × List Nat)}, (∀ y, g y = some x → g' y = some x) → (zde b t f m a ns cs).bind g = some x → (zde b t (f + 1) m a ns cs).bind g' = some x := fun {m a ns cs g g'} hg h => by
      cases hx : zde b t f m a ns cs with
      | none => rw [hx] at h; cases h
      | some y => rw [ih hx]; rw [hx] at h; exact hg y h
    unfold zde at h ⊢
    by_cases e1 : m = 3
    · rw [if_pos e1] at h ⊢
      by_cases e2 : a < b ∧ t a = 45
      · rw [if_pos e2] at h ⊢; exact hm h
      · rw [if_neg e2] at h ⊢
        by_cases e3 : a < b ∧ zdi (t a) = true
        · rw [if_pos e3] at h ⊢; exact h
        · rw [if_neg e3] at h ⊢
          by_cases e4 : a < b ∧ zlt (t a) < 8
          · rw [if_pos e4] at h ⊢; exact h
          · rw [if_neg e4] at h ⊢
            by_cases e5 : ns < 4 ∧ a < b ∧ t a = 40
            · rw [if_pos e5] at h ⊢; exact hm h
            · rw [if_neg e5] at h ⊢; exact h
    · rw [if_neg e1] at h ⊢
      by_cases e2 : m < 3
      · rw [if_pos e2] at h ⊢
        refine hb (fun y hy => ?_) h
        by_cases e3 : y.1 = true
        · rw [if_pos e3] at hy ⊢; exact ih hy
        · rw [if_neg e3] at hy ⊢; exact hy
      · rw [if_neg e2] at h ⊢
        by_cases e3 : a < b ∧ zrk2 (m - 4) (t a) = true
        · rw [if_pos e3] at h ⊢
          refine hb (fun y hy => ?_) h
          by_cases e4 : y.1 = true
          · rw [if_pos e4] at hy ⊢
            by_cases e5 : m = 4
            · rw [if_pos e5] at hy ⊢; exact hy
            · rw [if_neg e5] at hy ⊢; exact ih hy
          · rw [if_neg e4] at hy ⊢; exact hy
        · rw [if_neg e3] at h ⊢; exact h
theorem zde_k {f m a ns : Nat} {cs : List Nat} {x : Bool × Nat × List Nat} (h : zde b t f m a ns cs = some x) : ∀ k, zde b t (f + k) m a ns cs = some x
  | 0 => h
  | k + 1 => zde_s (zde_k h k)
theorem zde_m {f g m a ns : Nat} {cs : List Nat} {x : Bool × Nat × List Nat} (h : zde b t f m a ns cs = some x) (hg : f ≤ g) : zde b t g m a ns cs = some x := by
  have := zde_k h (g - f)
  rwa [show f + (g - f) = g by omega] at this
end ZSM
end
section
/-! the class reads a RULE, by W; printed by wip/z/z1g_form.py -/
/-- the sign of what waits; a code that can stand; what can wait -/
def zwo (o : Nat) : Nat := if o = 0 then 40 else if o = 2000 then 60 else if o = 2001 then 62 else if o = 2002 then 61 else if o = 2003 then 43 else if o = 2004 then 45 else if o = 2005 then 42 else if o = 2006 then 47 else 109
def zcv (c : Nat) : Prop := c < 1008 ∨ (2000 ≤ c ∧ c < 2007) ∨ c = 3000
def zvo (o : Nat) : Prop := o = 0 ∨ (2000 ≤ o ∧ o < 2007) ∨ o = 3000
/-- how a sign binds -/
def zbs (c : Nat) : Nat := if c = 109 then 4 else if zop c = 0 then 0 else zbd (zop c)
theorem zbs_4 {c : Nat} : zbs c ≤ 4 := by
  unfold zbs
  split
  · omega
  · split
    · omega
    · next h => exact Nat.le_succ_of_le (zbd_op h).2
theorem zop_109 : zop 109 = 0 := rfl
theorem zwo_lt {o : Nat} : zwo o < 128 := by unfold zwo; (repeat' split) <;> omega
theorem zbs_wo {o : Nat} (h : zvo o) : zbs (zwo o) = zbd o := by
  rcases (show o = 0 ∨ o = 2000 ∨ o = 2001 ∨ o = 2002 ∨ o = 2003 ∨ o = 2004 ∨ o = 2005 ∨ o = 2006 ∨ o = 3000 by unfold zvo at h; omega) with e | e | e | e | e | e | e | e | e <;> subst e <;> decide
theorem zwo_neg {o : Nat} (h : zvo o) (h0 : 1 ≤ zbd o) : -(zn (zwo o)) = zcc o := by
  rcases (show o = 0 ∨ o = 2000 ∨ o = 2001 ∨ o = 2002 ∨ o = 2003 ∨ o = 2004 ∨ o = 2005 ∨ o = 2006 ∨ o = 3000 by unfold zvo at h; omega) with e | e | e | e | e | e | e | e | e <;> subst e <;> first | exact absurd h0 (by decide) | decide
theorem zwo_op {c : Nat} (h : zop c ≠ 0) : zwo (zop c) = c ∧ zvo (zop c) := by
  unfold zop at h
  repeat' split at h
  all_goals first | (exfalso; exact h rfl) | (subst_vars; exact ⟨rfl, Or.inr (Or.inl (by decide))⟩)
theorem zvo_v {o : Nat} (h : zvo o) (h0 : 1 ≤ zbd o) : zcv o := by
  rcases h with h | h | h
  · subst h; exact absurd h0 (by decide)
  · exact Or.inr (Or.inl h)
  · exact Or.inr (Or.inr h)
theorem zcc_n {c : Nat} (h : c < 2000) : zcc c = zn c := if_pos h
/-- the signs by which bindingOf branches -/
def zbT (k : Nat) : Nat := if k = 0 then 84 else 74 + 2 * k
theorem zbr9 : (List.range 256).all (fun c => match pm_br (.lookupswitch 83 #[(42, 79), (43, 77), (45, 77), (47, 79), (60, 75), (61, 75), (62, 75), (109, 81)]) 75 1 [.int (zn c)] with
  | some (t, []) => Nat.beq t (zbT (zbs c))
  | _ => false) = true := by decide +kernel
theorem zbr9c {c k : Nat} (h : c < 256) (hk : zbs c = k) : pm_br (.lookupswitch 83 #[(42, 79), (43, 77), (45, 77), (47, 79), (60, 75), (61, 75), (62, 75), (109, 81)]) 75 1 [.int (zn c)] = some (zbT k, []) := by
  have h1 := List.all_eq_true.mp zbr9 c (List.mem_range.mpr h)
  generalize pm_br (.lookupswitch 83 #[(42, 79), (43, 77), (45, 77), (47, 79), (60, 75), (61, 75), (62, 75), (109, 81)]) 75 1 [.int (zn c)] = x at h1
  rw [hk] at h1
  match x, h1 with
  | some (t, []), h1 => rw [Nat.eq_of_beq_eq_true h1]
theorem zc_bind {c : Nat} {ph : pm_H} (hc : c < 256) : zM 9 [.int (zn c)] ph (fun v0 q => ph = q ∧ v0 = some (.int (zn (zbs c)))) := by
  obtain ⟨Q, hQ⟩ : ∃ Q : Option Value → pm_H → Prop, Q = (fun v0 q => ph = q ∧ v0 = some (.int (zn (zbs c)))) := ⟨_, rfl⟩
  rw [← hQ]
  refine zM_mk fun n D => ?_
  show zW n D 9 Q 0 [some (.int (zn c))] [] ph
  have c_0 : (Int32.ofInt 0).toInt = 0 := by decide
  have c_1 : (Int32.ofInt 1).toInt = 1 := by decide
  have c_2 : (Int32.ofInt 2).toInt = 2 := by decide
  have c_3 : (Int32.ofInt 3).toInt = 3 := by decide
  have c_4 : (Int32.ofInt 4).toInt = 4 := by decide
  have h4 := @zbs_4 c
  refine w_load (pc' := 1) (v := .int (zn c)) (m := 1) (ykc_9 (e := (2, .iload_n kF0, 0)) rfl) rfl rfl ?_
  rcases (show zbs c = 0 ∨ zbs c = 1 ∨ zbs c = 2 ∨ zbs c = 3 ∨ zbs c = 4 by omega) with e | e | e | e | e
  · refine w_br (pc' := 84) (st' := []) (ykc_9 (e := (4, .lookupswitch 83 #[(42, 79), (43, 77), (45, 77), (47, 79), (60, 75), (61, 75), (62, 75), (109, 81)], 75)) rfl) (zbr9c hc e) ?_
    refine w_alu (pc' := 85) (st' := [.int (Int32.ofInt 0)]) (ykc_9 (e := (0, .iconst 0, 0)) rfl) rfl rfl ?_
    refine w_ret (v := (some (.int (Int32.ofInt 0)))) (ykc_9 (e := (7, .ireturn, 0)) rfl) (zr_v rfl) ?_
    rw [hQ, e]
    exact ⟨rfl, rfl⟩
  · refine w_br (pc' := 76) (st' := []) (ykc_9 (e := (4, .lookupswitch 83 #[(42, 79), (43, 77), (45, 77), (47, 79), (60, 75), (61, 75), (62, 75), (109, 81)], 75)) rfl) (zbr9c hc e) ?_
    refine w_alu (pc' := 77) (st' := [.int (Int32.ofInt 1)]) (ykc_9 (e := (0, .iconst 1, 0)) rfl) rfl rfl ?_
    refine w_ret (v := (some (.int (Int32.ofInt 1)))) (ykc_9 (e := (7, .ireturn, 0)) rfl) (zr_v rfl) ?_
    rw [hQ, e]
    exact ⟨rfl, rfl⟩
  · refine w_br (pc' := 78) (st' := []) (ykc_9 (e := (4, .lookupswitch 83 #[(42, 79), (43, 77), (45, 77), (47, 79), (60, 75), (61, 75), (62, 75), (109, 81)], 75)) rfl) (zbr9c hc e) ?_
    refine w_alu (pc' := 79) (st' := [.int (Int32.ofInt 2)]) (ykc_9 (e := (0, .iconst 2, 0)) rfl) rfl rfl ?_
    refine w_ret (v := (some (.int (Int32.ofInt 2)))) (ykc_9 (e := (7, .ireturn, 0)) rfl) (zr_v rfl) ?_
    rw [hQ, e]
    exact ⟨rfl, rfl⟩
  · refine w_br (pc' := 80) (st' := []) (ykc_9 (e := (4, .lookupswitch 83 #[(42, 79), (43, 77), (45, 77), (47, 79), (60, 75), (61, 75), (62, 75), (109, 81)], 75)) rfl) (zbr9c hc e) ?_
    refine w_alu (pc' := 81) (st' := [.int (Int32.ofInt 3)]) (ykc_9 (e := (0, .iconst 3, 0)) rfl) rfl rfl ?_
    refine w_ret (v := (some (.int (Int32.ofInt 3)))) (ykc_9 (e := (7, .ireturn, 0)) rfl) (zr_v rfl) ?_
    rw [hQ, e]
    exact ⟨rfl, rfl⟩
  · refine w_br (pc' := 82) (st' := []) (ykc_9 (e := (4, .lookupswitch 83 #[(42, 79), (43, 77), (45, 77), (47, 79), (60, 75), (61, 75), (62, 75), (109, 81)], 75)) rfl) (zbr9c hc e) ?_
    refine w_alu (pc' := 83) (st' := [.int (Int32.ofInt 4)]) (ykc_9 (e := (0, .iconst 4, 0)) rfl) rfl rfl ?_
    refine w_ret (v := (some (.int (Int32.ofInt 4)))) (ykc_9 (e := (7, .ireturn, 0)) rfl) (zr_v rfl) ?_
    rw [hQ, e]
    exact ⟨rfl, rfl⟩
theorem zc_emit {ph : pm_H} {F k : Nat} {x : Int32} (hp : zc ph F 0 = some (.ref (F + 1))) (hk : zc ph F 1 = some (.int (zn k))) (h40 : k < 40) : zM 11 [.ref F, .int x] ph (fun v0 q => v0 = none ∧ zFr [F + 1] [(F, 1)] ph q ∧ zc q F 1 = some (.int (zn (k + 1))) ∧ zc q (F + 1) k = some (.int x) ∧ ∀ i, i ≠ k → zc q (F + 1) i = zc ph (F + 1) i) := by
  obtain ⟨Q, hQ⟩ : ∃ Q : Option Value → pm_H → Prop, Q = (fun v0 q => v0 = none ∧ zFr [F + 1] [(F, 1)] ph q ∧ zc q F 1 = some (.int (zn (k + 1))) ∧ zc q (F + 1) k = some (.int x) ∧ ∀ i, i ≠ k → zc q (F + 1) i = zc ph (F + 1) i) := ⟨_, rfl⟩
  rw [← hQ]
  refine zM_mk fun n D => ?_
  show zW n D 11 Q 0 [some (.ref F), some (.int x)] [] ph
  have c_0 : ((Int8.ofInt 40).toInt32).toInt = 40 := by decide
  have c_1 : (Int32.ofInt 1).toInt = 1 := by decide
  have tk := znt (k := k) (by omega)
  refine w_load (pc' := 1) (v := .ref F) (m := 1) (ykc_11 (e := (2, .aload_n kF0, 0)) rfl) rfl rfl ?_
  refine w_gf (pc' := 4) (v := .int (zn k)) (ykc_11 (e := (5, .getfield 55, 0)) rfl) rfl hk rfl ?_
  refine w_zlt (ykc_11 (e := (4, .ifCond .lt 32, 36)) rfl) rfl (fun q => by exfalso; omega) (fun b1517 => ?_)
  refine w_load (pc' := 8) (v := .ref F) (m := 1) (ykc_11 (e := (2, .aload_n kF0, 0)) rfl) rfl rfl ?_
  refine w_gf (pc' := 11) (v := .int (zn k)) (ykc_11 (e := (5, .getfield 55, 0)) rfl) rfl hk rfl ?_
  refine w_push (pc' := 13) (v := .int ((Int8.ofInt 40).toInt32)) (m := 2) (ykc_11 (e := (1, .bipush 40, 0)) rfl) rfl rfl ?_
  refine w_ige (ykc_11 (e := (4, .if_icmp .ge 23, 36)) rfl) rfl (fun q => by exfalso; omega) (fun b1518 => ?_)
  refine w_load (pc' := 17) (v := .ref F) (m := 1) (ykc_11 (e := (2, .aload_n kF0, 0)) rfl) rfl rfl ?_
  refine w_gf (pc' := 20) (v := .ref (F + 1)) (ykc_11 (e := (5, .getfield 9, 0)) rfl) rfl hp rfl ?_
  refine w_load (pc' := 21) (v := .ref F) (m := 1) (ykc_11 (e := (2, .aload_n kF0, 0)) rfl) rfl rfl ?_
  refine w_gf (pc' := 24) (v := .int (zn k)) (ykc_11 (e := (5, .getfield 55, 0)) rfl) rfl hk rfl ?_
  refine w_load (pc' := 25) (v := .int x) (m := 1) (ykc_11 (e := (2, .iload_n kF1, 0)) rfl) rfl rfl ?_
  refine w_ias (pc' := 26) (k := k) (ykc_11 (e := (5, .iastore, 0)) rfl) (by omega) rfl (fun ph1520 u1519 => ?_)
  refine w_load (pc' := 27) (v := .ref F) (m := 1) (ykc_11 (e := (2, .aload_n kF0, 0)) rfl) rfl rfl ?_
  refine w_alu (pc' := 28) (st' := [.ref F, .ref F]) (ykc_11 (e := (0, .dup, 0)) rfl) rfl rfl ?_
  refine w_gf (pc' := 31) (v := .int (zn k)) (ykc_11 (e := (5, .getfield 55, 0)) rfl) rfl ((u1519.2.1 F 1 (fun q => by have q2 := q.1; omega)).trans hk) rfl ?_
  refine w_alu (pc' := 32) (st' := [.int (Int32.ofInt 1), .int (zn k), .ref F]) (ykc_11 (e := (0, .iconst 1, 0)) rfl) rfl rfl ?_
  have e1521 : (zn k) + (Int32.ofInt 1) = zn (k + 1) := (zaddN (a := k) (b := 1) (znt (by omega)) c_1 (by omega)) 
  have te1521 := znt (k := k + 1) (by omega)
  refine w_alu (pc' := 33) (st' := [.int (zn (k + 1)), .ref F]) (ykc_11 (e := (0, .iadd, 0)) rfl) (by rw [← e1521]; rfl) rfl ?_
  refine w_pf (pc' := 36) (ykc_11 (e := (5, .putfield 55, 0)) rfl) rfl rfl (fun ph1523 u1522 => ?_)
  refine w_ret (v := none) (ykc_11 (e := (7, .return_, 0)) rfl) (zr_v rfl) ?_
  rw [hQ]
  exact ⟨rfl, zFr_trans (zFr_st u1519 (Or.inl (by simp))) (zFr_st u1522 (Or.inr (by simp))), u1522.1, (u1522.2.1 (F + 1) k (fun q => by have q1 := q.1; omega)).trans u1519.1, fun i hi => (u1522.2.1 (F + 1) i (fun q => by have q1 := q.1; omega)).trans (u1519.2.1 (F + 1) i (fun q => hi q.2))⟩
theorem zc_holdF {ph : pm_H} {F k : Nat} {x : Int32} (hp : zc ph F 2 = some (.ref (F + 2))) (hk : zc ph F 3 = some (.int (zn k))) (h40 : k < 40) : zM 12 [.ref F, .int x] ph (fun v0 q => v0 = none ∧ zFr [F + 2] [(F, 3)] ph q ∧ zc q F 3 = some (.int (zn (k + 1))) ∧ zc q (F + 2) k = some (.int x) ∧ ∀ i, i ≠ k → zc q (F + 2) i = zc ph (F + 2) i) := by
  obtain ⟨Q, hQ⟩ : ∃ Q : Option Value → pm_H → Prop, Q = (fun v0 q => v0 = none ∧ zFr [F + 2] [(F, 3)] ph q ∧ zc q F 3 = some (.int (zn (k + 1))) ∧ zc q (F + 2) k = some (.int x) ∧ ∀ i, i ≠ k → zc q (F + 2) i = zc ph (F + 2) i) := ⟨_, rfl⟩
  rw [← hQ]
  refine zM_mk fun n D => ?_
  show zW n D 12 Q 0 [some (.ref F), some (.int x)] [] ph
  have c_0 : ((Int8.ofInt 40).toInt32).toInt = 40 := by decide
  have c_1 : (Int32.ofInt 1).toInt = 1 := by decide
  have tk := znt (k := k) (by omega)
  refine w_load (pc' := 1) (v := .ref F) (m := 1) (ykc_12 (e := (2, .aload_n kF0, 0)) rfl) rfl rfl ?_
  refine w_gf (pc' := 4) (v := .int (zn k)) (ykc_12 (e := (5, .getfield 57, 0)) rfl) rfl hk rfl ?_
  refine w_zlt (ykc_12 (e := (4, .ifCond .lt 32, 36)) rfl) rfl (fun q => by exfalso; omega) (fun b1524 => ?_)
  refine w_load (pc' := 8) (v := .ref F) (m := 1) (ykc_12 (e := (2, .aload_n kF0, 0)) rfl) rfl rfl ?_
  refine w_gf (pc' := 11) (v := .int (zn k)) (ykc_12 (e := (5, .getfield 57, 0)) rfl) rfl hk rfl ?_
  refine w_push (pc' := 13) (v := .int ((Int8.ofInt 40).toInt32)) (m := 2) (ykc_12 (e := (1, .bipush 40, 0)) rfl) rfl rfl ?_
  refine w_ige (ykc_12 (e := (4, .if_icmp .ge 23, 36)) rfl) rfl (fun q => by exfalso; omega) (fun b1525 => ?_)
  refine w_load (pc' := 17) (v := .ref F) (m := 1) (ykc_12 (e := (2, .aload_n kF0, 0)) rfl) rfl rfl ?_
  refine w_gf (pc' := 20) (v := .ref (F + 2)) (ykc_12 (e := (5, .getfield 13, 0)) rfl) rfl hp rfl ?_
  refine w_load (pc' := 21) (v := .ref F) (m := 1) (ykc_12 (e := (2, .aload_n kF0, 0)) rfl) rfl rfl ?_
  refine w_gf (pc' := 24) (v := .int (zn k)) (ykc_12 (e := (5, .getfield 57, 0)) rfl) rfl hk rfl ?_
  refine w_load (pc' := 25) (v := .int x) (m := 1) (ykc_12 (e := (2, .iload_n kF1, 0)) rfl) rfl rfl ?_
  refine w_ias (pc' := 26) (k := k) (ykc_12 (e := (5, .iastore, 0)) rfl) (by omega) rfl (fun ph1527 u1526 => ?_)
  refine w_load (pc' := 27) (v := .ref F) (m := 1) (ykc_12 (e := (2, .aload_n kF0, 0)) rfl) rfl rfl ?_
  refine w_alu (pc' := 28) (st' := [.ref F, .ref F]) (ykc_12 (e := (0, .dup, 0)) rfl) rfl rfl ?_
  refine w_gf (pc' := 31) (v := .int (zn k)) (ykc_12 (e := (5, .getfield 57, 0)) rfl) rfl ((u1526.2.1 F 3 (fun q => by have q2 := q.1; omega)).trans hk) rfl ?_
  refine w_alu (pc' := 32) (st' := [.int (Int32.ofInt 1), .int (zn k), .ref F]) (ykc_12 (e := (0, .iconst 1, 0)) rfl) rfl rfl ?_
  have e1528 : (zn k) + (Int32.ofInt 1) = zn (k + 1) := (zaddN (a := k) (b := 1) (znt (by omega)) c_1 (by omega)) 
  have te1528 := znt (k := k + 1) (by omega)
  refine w_alu (pc' := 33) (st' := [.int (zn (k + 1)), .ref F]) (ykc_12 (e := (0, .iadd, 0)) rfl) (by rw [← e1528]; rfl) rfl ?_
  refine w_pf (pc' := 36) (ykc_12 (e := (5, .putfield 57, 0)) rfl) rfl rfl (fun ph1530 u1529 => ?_)
  refine w_ret (v := none) (ykc_12 (e := (7, .return_, 0)) rfl) (zr_v rfl) ?_
  rw [hQ]
  exact ⟨rfl, zFr_trans (zFr_st u1526 (Or.inl (by simp))) (zFr_st u1529 (Or.inr (by simp))), u1529.1, (u1529.2.1 (F + 2) k (fun q => by have q1 := q.1; omega)).trans u1526.1, fun i hi => (u1529.2.1 (F + 2) i (fun q => by have q1 := q.1; omega)).trans (u1526.2.1 (F + 2) i (fun q => hi q.2))⟩
/-- a Formula at F that is being read -/
def zFp (ph : pm_H) (F : Nat) : Prop := zc ph F 0 = some (.ref (F + 1)) ∧ zc ph F 2 = some (.ref (F + 2)) ∧ zc ph F 4 = some (.ref (F + 3))
def zFc (ph : pm_H) (F : Nat) (C : List Nat) : Prop := zc ph F 1 = some (.int (zn C.length)) ∧ ∀ i c, C[i]? = some c → zc ph (F + 1) (C.length - 1 - i) = some (.int (zcc c)) ∧ zcv c
def zFw (ph : pm_H) (F : Nat) (W : List Nat) : Prop := zc ph F 3 = some (.int (zn W.length)) ∧ ∀ i o, W[i]? = some o → zc ph (F + 2) (W.length - 1 - i) = some (.int (zn (zwo o))) ∧ zvo o
def zFb (ph : pm_H) (F : Nat) (cm : Nat → Bool) : Prop := ∀ i, i < 5 → zc ph (F + 3) i = some (.int (zI (cm i)))
def zFd (ph : pm_H) (F dp dg : Nat) (wt : Bool) : Prop := zc ph F 5 = some (.int (zn dp)) ∧ dp ≤ 4 ∧ zc ph F 6 = some (.int (zn dg)) ∧ dg ≤ 3 ∧ zc ph F 7 = some (.int (zI wt))
section ZFX
variable {A : List Nat} {L : List (Nat × Nat)} {p q : pm_H} {F dp dg k : Nat} {C W : List Nat} {cm : Nat → Bool} {wt : Bool}
theorem zFp_F (f : zFr A L p q) (h1 : F ∉ A) (h2 : (F, 0) ∉ L ∧ (F, 2) ∉ L ∧ (F, 4) ∉ L) (h : zFp p F) : zFp q F := ⟨(f.1 _ _ h1 h2.1).trans h.1, (f.1 _ _ h1 h2.2.1).trans h.2.1, (f.1 _ _ h1 h2.2.2).trans h.2.2⟩
theorem zFc_F (f : zFr A L p q) (h1 : F ∉ A ∧ F + 1 ∉ A) (h2 : (F, 1) ∉ L ∧ ∀ i, (F + 1, i) ∉ L) (h : zFc p F C) : zFc q F C := ⟨(f.1 _ _ h1.1 h2.1).trans h.1, fun i c hc => ⟨(f.1 _ _ h1.2 (h2.2 _)).trans (h.2 i c hc).1, (h.2 i c hc).2⟩⟩
theorem zFw_F (f : zFr A L p q) (h1 : F ∉ A ∧ F + 2 ∉ A) (h2 : (F, 3) ∉ L ∧ ∀ i, (F + 2, i) ∉ L) (h : zFw p F W) : zFw q F W := ⟨(f.1 _ _ h1.1 h2.1).trans h.1, fun i c hc => ⟨(f.1 _ _ h1.2 (h2.2 _)).trans (h.2 i c hc).1, (h.2 i c hc).2⟩⟩
theorem zFb_F (f : zFr A L p q) (h1 : F + 3 ∉ A) (h2 : ∀ i, (F + 3, i) ∉ L) (h : zFb p F cm) : zFb q F cm := fun i hi => (f.1 _ _ h1 (h2 i)).trans (h i hi)
theorem zFd_F (f : zFr A L p q) (h1 : F ∉ A) (h2 : (F, 5) ∉ L ∧ (F, 6) ∉ L ∧ (F, 7) ∉ L) (h : zFd p F dp dg wt) : zFd q F dp dg wt := ⟨(f.1 _ _ h1 h2.1).trans h.1, h.2.1, (f.1 _ _ h1 h2.2.1).trans h.2.2.1, h.2.2.2.1, (f.1 _ _ h1 h2.2.2).trans h.2.2.2.2⟩
/-- one code more -/
theorem zFc_c {c : Nat} (h : zFc p F C) (h1 : zc q F 1 = some (.int (zn (C.length + 1)))) (h2 : zc q (F + 1) C.length = some (.int (zcc c))) (h3 : ∀ i, i ≠ C.length → zc q (F + 1) i = zc p (F + 1) i) (hc : zcv c) : zFc q F (c :: C) := by
  refine ⟨h1, fun i x hx => ?_⟩
  cases i with
  | zero =>
    cases hx
    exact ⟨by rw [show (c :: C).length - 1 - 0 = C.length by simp]; exact h2, hc⟩
  | succ i =>
    have hx : C[i]? = some x := hx
    have hi := (List.getElem?_eq_some_iff.mp hx).1
    obtain ⟨g1, g2⟩ := h.2 i x hx
    refine ⟨?_, g2⟩
    rw [show (c :: C).length - 1 - (i + 1) = C.length - 1 - i by simp; omega, h3 _ (by omega)]
    exact g1
theorem zFw_c {o : Nat} (h : zFw p F W) (h1 : zc q F 3 = some (.int (zn (W.length + 1)))) (h2 : zc q (F + 2) W.length = some (.int (zn (zwo o)))) (h3 : ∀ i, i ≠ W.length → zc q (F + 2) i = zc p (F + 2) i) (hc : zvo o) : zFw q F (o :: W) := by
  refine ⟨h1, fun i x hx => ?_⟩
  cases i with
  | zero =>
    cases hx
    exact ⟨by rw [show (o :: W).length - 1 - 0 = W.length by simp]; exact h2, hc⟩
  | succ i =>
    have hx : W[i]? = some x := hx
    have hi := (List.getElem?_eq_some_iff.mp hx).1
    obtain ⟨g1, g2⟩ := h.2 i x hx
    refine ⟨?_, g2⟩
    rw [show (o :: W).length - 1 - (i + 1) = W.length - 1 - i by simp; omega, h3 _ (by omega)]
    exact g1
/-- the latest one that waits; without it -/
theorem zFw_h {o : Nat} (h : zFw p F (o :: W)) : zc p (F + 2) W.length = some (.int (zn (zwo o))) ∧ zvo o := by
  have h2 := h.2 0 o rfl
  rwa [show (o :: W).length - 1 - 0 = W.length by simp] at h2
theorem zFw_t {o : Nat} (h : zFw p F (o :: W)) (h1 : zc q F 3 = some (.int (zn W.length))) (h3 : ∀ i, zc q (F + 2) i = zc p (F + 2) i) : zFw q F W := by
  refine ⟨h1, fun i x hx => ?_⟩
  have h2 := h.2 (i + 1) x hx
  rw [show (o :: W).length - 1 - (i + 1) = W.length - 1 - i by simp; omega] at h2
  exact ⟨(h3 _).trans h2.1, h2.2⟩
theorem zrl_len {b : Nat} : ∀ {W C : List Nat}, (zrl b W C).1.length + (zrl b W C).2.length = W.length + C.length
  | [], _ => rfl
  | o :: W, C => by
    show (if b ≤ zbd o then zrl b W (o :: C) else (o :: W, C)).1.length + (if b ≤ zbd o then zrl b W (o :: C) else (o :: W, C)).2.length = _
    split
    · rw [zrl_len (W := W) (C := o :: C)]; simp; omega
    · rfl
end ZFX
theorem zc_release {ph : pm_H} {F b : Nat} {x : Int32} {C W : List Nat} (hp : zFp ph F) (hC : zFc ph F C) (hW : zFw ph F W) (hx : x.toInt = (b : Int)) (hb : 1 ≤ b) (h40 : C.length + W.length ≤ 40) : zM 10 [.ref F, .int x] ph (fun v0 q => v0 = none ∧ zFr [F + 1] [(F, 1), (F, 3)] ph q ∧ zFc q F (zrl b W C).2 ∧ zFw q F (zrl b W C).1) := by
  obtain ⟨Q, hQ⟩ : ∃ Q : Option Value → pm_H → Prop, Q = (fun v0 q => v0 = none ∧ zFr [F + 1] [(F, 1), (F, 3)] ph q ∧ zFc q F (zrl b W C).2 ∧ zFw q F (zrl b W C).1) := ⟨_, rfl⟩
  rw [← hQ]
  refine zM_mk fun n D => ?_
  show zW n D 10 Q 0 [some (.ref F), some (.int x)] [] ph
  have c_0 : (Int32.ofInt 1).toInt = 1 := by decide
  have hx9 := x32_hi x
  have hl : ∀ (n : Nat), ∀ (W2 C2 : List Nat) (ph1 : pm_H), (zFr [F + 1] [(F, 1), (F, 3)] ph ph1) → (zFc ph1 F C2) → (zFw ph1 F W2) → (zrl b W2 C2 = zrl b W C) → (C2.length + W2.length ≤ 40) → zW n D 10 Q 0 [some (.ref F), some (.int x)] [] ph1 := by
    intro n
    induction n using Nat.strongRecOn with
    | ind n ih =>
      intro W2 C2 ph1 hf hC1 hW1 hz h41
      have hp1 := zFp_F hf (by simp) (by simp) hp
      cases W2 with
      | nil =>
        have t0 := znt (k := 0) (by omega)
        refine w_load (pc' := 1) (v := .ref F) (m := 1) (ykc_10 (e := (2, .aload_n kF0, 0)) rfl) rfl rfl ?_
        refine w_gf (pc' := 4) (v := .int (zn 0)) (ykc_10 (e := (5, .getfield 57, 0)) rfl) rfl hW1.1 rfl ?_
        refine w_zle (ykc_10 (e := (4, .ifCond .le 48, 52)) rfl) rfl (fun b1531 => ?_) (fun q => by exfalso; omega)
        refine w_ret (v := none) (ykc_10 (e := (7, .return_, 0)) rfl) (zr_v rfl) ?_
        rw [hQ, ← hz]
        exact ⟨rfl, hf, hC1, hW1⟩
      | cons o W3 =>
        have hl9 : C2.length + (W3.length + 1) ≤ 40 := h41
        have tw := znt (k := W3.length + 1) (by omega)
        have tw2 := znt (k := W3.length) (by omega)
        obtain ⟨ho, hov⟩ := zFw_h hW1
        have ho128 := @zwo_lt o
        have to := znt (k := zwo o) (by omega)
        have hbo := zbs_wo hov
        have hzr : zrl b (o :: W3) C2 = if b ≤ zbd o then zrl b W3 (o :: C2) else (o :: W3, C2) := rfl
        refine w_load (pc' := 1) (v := .ref F) (m := 1) (ykc_10 (e := (2, .aload_n kF0, 0)) rfl) rfl rfl ?_
        refine w_gf (pc' := 4) (v := .int (zn (W3.length + 1))) (ykc_10 (e := (5, .getfield 57, 0)) rfl) rfl hW1.1 rfl ?_
        refine w_zle (ykc_10 (e := (4, .ifCond .le 48, 52)) rfl) rfl (fun q => by exfalso; omega) (fun b1532 => ?_)
        refine w_load (pc' := 8) (v := .ref F) (m := 1) (ykc_10 (e := (2, .aload_n kF0, 0)) rfl) rfl rfl ?_
        refine w_gf (pc' := 11) (v := .ref (F + 2)) (ykc_10 (e := (5, .getfield 13, 0)) rfl) rfl hp1.2.1 rfl ?_
        refine w_load (pc' := 12) (v := .ref F) (m := 1) (ykc_10 (e := (2, .aload_n kF0, 0)) rfl) rfl rfl ?_
        refine w_gf (pc' := 15) (v := .int (zn (W3.length + 1))) (ykc_10 (e := (5, .getfield 57, 0)) rfl) rfl hW1.1 rfl ?_
        refine w_alu (pc' := 16) (st' := [.int (Int32.ofInt 1), .int (zn (W3.length + 1)), .ref (F + 2)]) (ykc_10 (e := (0, .iconst 1, 0)) rfl) rfl rfl ?_
        have e1533 : (zn (W3.length + 1)) - (Int32.ofInt 1) = zn (W3.length) := zsubN (a := W3.length + 1) (b := 1) (znt (by omega)) c_0 (by omega)
        have te1533 := znt (k := W3.length) (by omega)
        refine w_alu (pc' := 17) (st' := [.int (zn (W3.length)), .ref (F + 2)]) (ykc_10 (e := (0, .isub, 0)) rfl) (by show some ([.int ((zn (W3.length + 1)) - (Int32.ofInt 1)), .ref (F + 2)] : List Value) = _; rw [e1533]) rfl ?_
        refine w_ialk (pc' := 18) (k := W3.length) (ykc_10 (e := (5, .iaload, 0)) rfl) ho (by omega) rfl ?_
        refine w_cs (as := [.int (zn (zwo o))]) (r := []) (ykc_10 (e := (6, .invokestatic 89, 0)) rfl) rfl rfl rfl rfl (zc_bind (c := zwo o) (by omega)) (fun v1534 ph1535 hv => ?_)
        obtain ⟨rfl, rfl⟩ := hv
        have tb9 := znt (k := zbs (zwo o)) (by have := @zbs_4 (zwo o); omega)
        have hb9 := @zbs_4 (zwo o)
        show zW n D 10 Q 21 [some (.ref F), some (.int x)] [.int (zn (zbs (zwo o)))] ph1
        refine w_load (pc' := 22) (v := .int x) (m := 1) (ykc_10 (e := (2, .iload_n kF1, 0)) rfl) rfl rfl ?_
        refine w_ilt (ykc_10 (e := (4, .if_icmp .lt 30, 52)) rfl) rfl (fun b1536 => ?_) (fun b1536 => ?_)
        · refine w_ret (v := none) (ykc_10 (e := (7, .return_, 0)) rfl) (zr_v rfl) ?_
          have hbb : ¬ b ≤ zbd o := by omega
          rw [hQ, ← hz, hzr, if_neg hbb]
          exact ⟨rfl, hf, hC1, hW1⟩
        · refine w_load (pc' := 26) (v := .ref F) (m := 1) (ykc_10 (e := (2, .aload_n kF0, 0)) rfl) rfl rfl ?_
          refine w_alu (pc' := 27) (st' := [.ref F, .ref F]) (ykc_10 (e := (0, .dup, 0)) rfl) rfl rfl ?_
          refine w_gf (pc' := 30) (v := .int (zn (W3.length + 1))) (ykc_10 (e := (5, .getfield 57, 0)) rfl) rfl hW1.1 rfl ?_
          refine w_alu (pc' := 31) (st' := [.int (Int32.ofInt 1), .int (zn (W3.length + 1)), .ref F]) (ykc_10 (e := (0, .iconst 1, 0)) rfl) rfl rfl ?_
          have e1537 : (zn (W3.length + 1)) - (Int32.ofInt 1) = zn (W3.length) := zsubN (a := W3.length + 1) (b := 1) (znt (by omega)) c_0 (by omega)
          have te1537 := znt (k := W3.length) (by omega)
          refine w_alu (pc' := 32) (st' := [.int (zn (W3.length)), .ref F]) (ykc_10 (e := (0, .isub, 0)) rfl) (by show some ([.int ((zn (W3.length + 1)) - (Int32.ofInt 1)), .ref F] : List Value) = _; rw [e1537]) rfl ?_
          refine w_pf (pc' := 35) (ykc_10 (e := (5, .putfield 57, 0)) rfl) rfl rfl (fun ph1539 u1538 => ?_)
          refine w_load (pc' := 36) (v := .ref F) (m := 1) (ykc_10 (e := (2, .aload_n kF0, 0)) rfl) rfl rfl ?_
          refine w_load (pc' := 37) (v := .ref F) (m := 1) (ykc_10 (e := (2, .aload_n kF0, 0)) rfl) rfl rfl ?_
          refine w_gf (pc' := 40) (v := .ref (F + 2)) (ykc_10 (e := (5, .getfield 13, 0)) rfl) rfl ((u1538.2.1 F 2 (fun q => absurd q.2 (by decide))).trans hp1.2.1) rfl ?_
          refine w_load (pc' := 41) (v := .ref F) (m := 1) (ykc_10 (e := (2, .aload_n kF0, 0)) rfl) rfl rfl ?_
          refine w_gf (pc' := 44) (v := .int (zn (W3.length))) (ykc_10 (e := (5, .getfield 57, 0)) rfl) rfl u1538.1 rfl ?_
          refine w_ialk (pc' := 45) (k := W3.length) (ykc_10 (e := (5, .iaload, 0)) rfl) ((u1538.2.1 (F + 2) W3.length (fun q => by have q2 := q.1; omega)).trans ho) (by omega) rfl ?_
          have hbb : b ≤ zbd o := by omega
          refine w_alu (pc' := 46) (st' := [.int (zcc o), .ref F]) (ykc_10 (e := (0, .ineg, 0)) rfl) (by show some ([.int (-(zn (zwo o))), .ref F] : List Value) = _; rw [(zwo_neg hov (by omega) : -(zn (zwo o)) = zcc o)]) rfl ?_
          have fu : zFr [F + 1] [(F, 1), (F, 3)] ph1 ph1539 := zFr_st u1538 (Or.inr (by simp))
          have hp2 := zFp_F fu (by simp) (by simp) hp1
          have hC2 : zFc ph1539 F C2 := zFc_F (A := []) (L := [(F, 3)]) (zFr_st u1538 (Or.inr (by simp))) (by simp) (by simp) hC1
          refine w_cv (as := [.ref F, .int (zcc o)]) (r := []) (ykc_10 (e := (6, .invokevirtual 70, 0)) rfl) rfl rfl rfl rfl (zc_emit hp2.1 hC2.1 (by omega)) (fun v1540 ph1541 hv => ?_)
          obtain ⟨rfl, fe, g1, g2, g3⟩ := hv
          show zW n D 10 Q 49 [some (.ref F), some (.int x)] [] ph1541
          refine w_gb (ykc_10 (e := (4, .goto (-49), 0)) rfl) (fun k1542 hk1542 => ?_)
          exact ih k1542 hk1542 W3 (o :: C2) _ (zFr_trans hf (zFr_trans fu (zFr_mono fe (by simp) (by simp)))) (zFc_c hC2 g1 g2 g3 (zvo_v hov (by omega))) (zFw_t hW1 ((fe.1 F 3 (by simp) (by simp)).trans u1538.1) (fun i => (fe.1 (F + 2) i (by simp) (by simp)).trans (u1538.2.1 (F + 2) i (fun q => by have q1 := q.1; omega)))) (by rw [← hz, hzr, if_pos hbb]) (by show C2.length + 1 + W3.length ≤ 40; omega)
  exact hl n W C ph zFr_refl hC hW rfl h40
theorem zi2b : (List.range 256).all (fun c => decide (((zn c).toInt8.toInt32).toInt = if c < 128 then (c : Int) else (c : Int) - 256)) = true := by decide +kernel
theorem zi2bc {c : Nat} (h : c < 256) : ((zn c).toInt8.toInt32).toInt = if c < 128 then (c : Int) else (c : Int) - 256 := of_decide_eq_true (List.all_eq_true.mp zi2b c (List.mem_range.mpr h))
theorem zj_can {c : Nat} {ph : pm_H} (hc : c < 256) : zM 315 [.int (zn c)] ph (fun v0 q => ph = q ∧ v0 = some (.int (zI true))) := by
  obtain ⟨Q, hQ⟩ : ∃ Q : Option Value → pm_H → Prop, Q = (fun v0 q => ph = q ∧ v0 = some (.int (zI true))) := ⟨_, rfl⟩
  rw [← hQ]
  refine zM_mk fun n D => ?_
  show zW n D 315 Q 0 [some (.int (zn c))] [] ph
  have c_0 : ((Int16.ofInt 255).toInt32).toInt = 255 := by decide
  have c_1 : (Int32.ofInt 0).toInt = 0 := by decide
  have c_2 : (Int32.ofInt 1).toInt = 1 := by decide
  have tc := znt (k := c) (by omega)
  refine w_load (pc' := 1) (v := .int (zn c)) (m := 1) (ykc_315 (e := (2, .iload_n kF0, 0)) rfl) rfl rfl ?_
  refine w_zlt (ykc_315 (e := (4, .ifCond .lt 14, 15)) rfl) rfl (fun q => by exfalso; omega) (fun b1543 => ?_)
  refine w_load (pc' := 5) (v := .int (zn c)) (m := 1) (ykc_315 (e := (2, .iload_n kF0, 0)) rfl) rfl rfl ?_
  refine w_push (pc' := 8) (v := .int ((Int16.ofInt 255).toInt32)) (m := 3) (ykc_315 (e := (1, .sipush 255, 0)) rfl) rfl rfl ?_
  refine w_igt (ykc_315 (e := (4, .if_icmp .gt 7, 15)) rfl) rfl (fun q => by exfalso; omega) (fun b1544 => ?_)
  refine w_alu (pc' := 12) (st' := [.int (Int32.ofInt 1)]) (ykc_315 (e := (0, .iconst 1, 0)) rfl) rfl rfl ?_
  refine w_br (pc' := 16) (st' := [.int (Int32.ofInt 1)]) (ykc_315 (e := (4, .goto 4, 16)) rfl) rfl ?_
  refine w_ret (v := (some (.int (Int32.ofInt 1)))) (ykc_315 (e := (7, .ireturn, 0)) rfl) zr_z ?_
  rw [hQ, zi1]
  exact ⟨rfl, rfl⟩
theorem zj_ixc {s B N : Nat} {cs : Nat → Nat} {ph : pm_H} (hst : zStr s B N cs) {c : Nat} (hc : c < 256) {x0 x1 : Int32} (hx0 : x0.toInt = 0) (hx1 : x1.toInt = (N : Int)) : zM 317 [.ref B, .int (zn c), .int x0, .int x1] ph (fun v0 q => ph = q ∧ ((∃ k, k < N ∧ cs k = c ∧ v0 = some (.int (zn k))) ∨ ((∀ k, k < N → cs k ≠ c) ∧ v0 = some (.int (Int32.ofInt (-1)))))) := by
  obtain ⟨Q, hQ⟩ : ∃ Q : Option Value → pm_H → Prop, Q = (fun v0 q => ph = q ∧ ((∃ k, k < N ∧ cs k = c ∧ v0 = some (.int (zn k))) ∨ ((∀ k, k < N → cs k ≠ c) ∧ v0 = some (.int (Int32.ofInt (-1)))))) := ⟨_, rfl⟩
  rw [← hQ]
  refine zM_mk fun n D => ?_
  show zW n D 317 Q 0 [some (.ref B), some (.int (zn c)), some (.int x0), some (.int x1), none, none] [] ph
  have c_0 : (Int32.ofInt (-1)).toInt = -1 := by decide
  have c_1 : (Int32.ofInt 1).toInt = 1 := by decide
  obtain ⟨i9, s1, s2, s3, s4, s5, f, s6, s7⟩ := hst
  have tc := znt (k := c) (by omega)
  have hb8 := zi2bc hc
  refine w_load (pc' := 1) (v := .int (zn c)) (m := 1) (ykc_317 (e := (2, .iload_n kF1, 0)) rfl) rfl rfl ?_
  refine w_alu (pc' := 2) (st' := [.int ((zn c).toInt8.toInt32)]) (ykc_317 (e := (0, .i2b, 0)) rfl) rfl rfl ?_
  refine w_store (pc' := 4) (L' := [some (.ref B), some (.int (zn c)), some (.int x0), some (.int x1), some (.int ((zn c).toInt8.toInt32)), none]) (st' := []) (m := 2) (ykc_317 (e := (3, .istore 4, 0)) rfl) rfl rfl ?_
  refine w_load (pc' := 5) (v := .int x0) (m := 1) (ykc_317 (e := (2, .iload_n kF2, 0)) rfl) rfl rfl ?_
  refine w_store (pc' := 7) (L' := [some (.ref B), some (.int (zn c)), some (.int x0), some (.int x1), some (.int ((zn c).toInt8.toInt32)), some (.int x0)]) (st' := []) (m := 2) (ykc_317 (e := (3, .istore 5, 0)) rfl) rfl rfl ?_
  have hl : ∀ (n : Nat), ∀ (k : Nat) (z : Int32), (k ≤ N) → (z.toInt = (k : Int)) → (∀ i, i < k → cs i ≠ c) → zW n D 317 Q 7 [some (.ref B), some (.int (zn c)), some (.int x0), some (.int x1), some (.int ((zn c).toInt8.toInt32)), some (.int z)] [] ph := by
    intro n
    induction n using Nat.strongRecOn with
    | ind n ih =>
      intro k z hk hz hno
      refine w_load (pc' := 9) (v := .int z) (m := 2) (ykc_317 (e := (2, .iload 5, 0)) rfl) rfl rfl ?_
      refine w_load (pc' := 10) (v := .int x1) (m := 1) (ykc_317 (e := (2, .iload_n kF3, 0)) rfl) rfl rfl ?_
      refine w_ige (ykc_317 (e := (4, .if_icmp .ge 21, 31)) rfl) rfl (fun b1545 => ?_) (fun b1545 => ?_)
      · refine w_alu (pc' := 32) (st' := [.int (Int32.ofInt (-1))]) (ykc_317 (e := (0, .iconst (-1), 0)) rfl) rfl rfl ?_
        refine w_ret (v := (some (.int (Int32.ofInt (-1))))) (ykc_317 (e := (7, .ireturn, 0)) rfl) (zr_v rfl) ?_
        have ek : k = N := by omega
        subst ek
        rw [hQ]
        exact ⟨rfl, Or.inr ⟨hno, rfl⟩⟩
      · refine w_load (pc' := 14) (v := .ref B) (m := 1) (ykc_317 (e := (2, .aload_n kF0, 0)) rfl) rfl rfl ?_
        refine w_load (pc' := 16) (v := .int z) (m := 2) (ykc_317 (e := (2, .iload 5, 0)) rfl) rfl rfl ?_
        obtain ⟨hfk, hck⟩ := s7 k (by omega)
        have tck := znt (k := cs k) (by omega)
        refine w_blr (pc' := 17) (k := k) (y := zn (cs k)) (ykc_317 (e := (5, .baload, 0)) rfl) ⟨s4, s6, hfk⟩ (by omega) rfl ?_
        refine w_load (pc' := 19) (v := .int ((zn c).toInt8.toInt32)) (m := 2) (ykc_317 (e := (2, .iload 4, 0)) rfl) rfl rfl ?_
        refine w_ine (ykc_317 (e := (4, .if_icmp .ne 6, 25)) rfl) rfl (fun b1546 => ?_) (fun b1546 => ?_)
        · have e1547 : z + Int32.ofInt 1 = zn (k + 1) := (zaddN (a := k) (b := 1) (by omega) c_1 (by omega))
          have te1547 := znt (k := k + 1) (by omega)
          refine w_store (pc' := 28) (L' := [some (.ref B), some (.int (zn c)), some (.int x0), some (.int x1), some (.int ((zn c).toInt8.toInt32)), some (.int (zn (k + 1)))]) (st' := []) (m := 3) (ykc_317 (e := (3, .iinc 5 1, 0)) rfl) (by rw [← e1547]; rfl) rfl ?_
          refine w_gb (ykc_317 (e := (4, .goto (-21), 7)) rfl) (fun k1548 hk1548 => ?_)
          exact ih k1548 hk1548 (k + 1) _ (by omega) (by omega) (fun i hi => by
            by_cases e : i = k
            · subst e
              intro q
              rw [if_pos (by omega)] at hb8
              omega
            · exact hno i (by omega))
        · refine w_load (pc' := 24) (v := .int z) (m := 2) (ykc_317 (e := (2, .iload 5, 0)) rfl) rfl rfl ?_
          refine w_ret (v := (some (.int z))) (ykc_317 (e := (7, .ireturn, 0)) rfl) (zr_v rfl) ?_
          have hz9 : z = zn k := zn_of hz
          rw [hQ, hz9]
          exact ⟨rfl, Or.inl ⟨k, by omega, by split at hb8 <;> omega, rfl⟩⟩
  exact hl n 0 x0 (Nat.zero_le _) hx0 (fun i hi => absurd hi (Nat.not_lt_zero i))
theorem zj_ix4 {s B N : Nat} {cs : Nat → Nat} {ph : pm_H} (hst : zStr s B N cs) {c : Nat} (hc : c < 256) {x0 x1 : Int32} (hx0 : x0.toInt = 0) (hx1 : x1.toInt = (N : Int)) : zM 316 [.ref B, .int (zn c), .int x0, .int x1] ph (fun v0 q => ph = q ∧ ((∃ k, k < N ∧ cs k = c ∧ v0 = some (.int (zn k))) ∨ ((∀ k, k < N → cs k ≠ c) ∧ v0 = some (.int (Int32.ofInt (-1)))))) := by
  obtain ⟨Q, hQ⟩ : ∃ Q : Option Value → pm_H → Prop, Q = (fun v0 q => ph = q ∧ ((∃ k, k < N ∧ cs k = c ∧ v0 = some (.int (zn k))) ∨ ((∀ k, k < N → cs k ≠ c) ∧ v0 = some (.int (Int32.ofInt (-1)))))) := ⟨_, rfl⟩
  rw [← hQ]
  refine zM_mk fun n D => ?_
  show zW n D 316 Q 0 [some (.ref B), some (.int (zn c)), some (.int x0), some (.int x1)] [] ph
  have c_0 : (Int32.ofInt (-1)).toInt = -1 := by decide
  have c_1 : (Int32.ofInt 0).toInt = 0 := by decide
  have hst0 := hst
  obtain ⟨i9, s1, s2, s3, s4, s5, f, s6, s7⟩ := hst
  have tN : (Int32.ofNat N).toInt = (N : Int) := znt (by omega)
  refine w_load (pc' := 1) (v := .int (zn c)) (m := 1) (ykc_316 (e := (2, .iload_n kF1, 0)) rfl) rfl rfl ?_
  refine w_cs (as := [.int (zn c)]) (r := []) (ykc_316 (e := (6, .invokestatic 88, 0)) rfl) rfl rfl rfl rfl (zj_can hc) (fun v1549 ph1550 hv => ?_)
  obtain ⟨rfl, rfl⟩ := hv
  show zW n D 316 Q 4 [some (.ref B), some (.int (zn c)), some (.int x0), some (.int x1)] [.int (zI true)] ph
  refine w_bne (ykc_316 (e := (4, .ifCond .ne 5, 9)) rfl) rfl (fun b1551 => ?_) (fun q => absurd q (by decide))
  refine w_load (pc' := 10) (v := .int x0) (m := 1) (ykc_316 (e := (2, .iload_n kF2, 0)) rfl) rfl rfl ?_
  refine w_alu (pc' := 11) (st' := [.int (Int32.ofInt 0), .int x0]) (ykc_316 (e := (0, .iconst 0, 0)) rfl) rfl rfl ?_
  obtain ⟨z1552, e_z1552⟩ : ∃ zq : Int32, (if x0 < (Int32.ofInt 0) then (Int32.ofInt 0) else x0) = zq := ⟨_, rfl⟩
  have h_z1552 := zmaxI e_z1552
  have n_z1552 : z1552.toInt = ((0 : Nat) : Int) := by omega
  refine w_mem1 (pc' := 14) (m := 3) (st' := [.int z1552]) (ph' := ph) (ykc_316 (e := (5, .invokestatic 92, 0)) rfl) (by rw [← e_z1552]; rfl) rfl ?_
  refine w_store (pc' := 15) (L' := [some (.ref B), some (.int (zn c)), some (.int z1552), some (.int x1)]) (st' := []) (m := 1) (ykc_316 (e := (3, .istore_n kF2, 0)) rfl) rfl rfl ?_
  refine w_load (pc' := 16) (v := .int x1) (m := 1) (ykc_316 (e := (2, .iload_n kF3, 0)) rfl) rfl rfl ?_
  refine w_load (pc' := 17) (v := .ref B) (m := 1) (ykc_316 (e := (2, .aload_n kF0, 0)) rfl) rfl rfl ?_
  refine w_alr (ykc_316 (e := (5, .arraylength, 0)) rfl) ⟨s4, s6⟩ rfl ?_
  obtain ⟨z1553, e_z1553⟩ : ∃ zq : Int32, (if (Int32.ofNat N) < x1 then (Int32.ofNat N) else x1) = zq := ⟨_, rfl⟩
  have h_z1553 := zminI e_z1553
  have n_z1553 : z1553.toInt = ((N : Nat) : Int) := by omega
  refine w_mem1 (pc' := 21) (m := 3) (st' := [.int z1553]) (ph' := ph) (ykc_316 (e := (5, .invokestatic 38, 0)) rfl) (by rw [← e_z1553]; rfl) rfl ?_
  refine w_store (pc' := 22) (L' := [some (.ref B), some (.int (zn c)), some (.int z1552), some (.int z1553)]) (st' := []) (m := 1) (ykc_316 (e := (3, .istore_n kF3, 0)) rfl) rfl rfl ?_
  refine w_load (pc' := 23) (v := .int z1552) (m := 1) (ykc_316 (e := (2, .iload_n kF2, 0)) rfl) rfl rfl ?_
  refine w_load (pc' := 24) (v := .int z1553) (m := 1) (ykc_316 (e := (2, .iload_n kF3, 0)) rfl) rfl rfl ?_
  refine w_ilt (ykc_316 (e := (4, .if_icmp .lt 5, 29)) rfl) rfl (fun b1554 => ?_) (fun b1554 => ?_)
  · refine w_load (pc' := 30) (v := .ref B) (m := 1) (ykc_316 (e := (2, .aload_n kF0, 0)) rfl) rfl rfl ?_
    refine w_load (pc' := 31) (v := .int (zn c)) (m := 1) (ykc_316 (e := (2, .iload_n kF1, 0)) rfl) rfl rfl ?_
    refine w_load (pc' := 32) (v := .int z1552) (m := 1) (ykc_316 (e := (2, .iload_n kF2, 0)) rfl) rfl rfl ?_
    refine w_load (pc' := 33) (v := .int z1553) (m := 1) (ykc_316 (e := (2, .iload_n kF3, 0)) rfl) rfl rfl ?_
    refine w_cs (as := [.ref B, .int (zn c), .int z1552, .int z1553]) (r := []) (ykc_316 (e := (6, .invokestatic 95, 0)) rfl) rfl rfl rfl rfl (zj_ixc hst0 hc (x0 := z1552) (x1 := z1553) (by omega) (by omega)) (fun v1555 ph1556 hv => ?_)
    rcases hv with ⟨rfl, ⟨k, h1, h2, rfl⟩ | ⟨h1, rfl⟩⟩
    · show zW n D 316 Q 36 [some (.ref B), some (.int (zn c)), some (.int z1552), some (.int z1553)] [.int (zn k)] ph
      refine w_ret (v := (some (.int (zn k)))) (ykc_316 (e := (7, .ireturn, 0)) rfl) (zr_v rfl) ?_
      rw [hQ]
      exact ⟨rfl, Or.inl ⟨k, h1, h2, rfl⟩⟩
    · show zW n D 316 Q 36 [some (.ref B), some (.int (zn c)), some (.int z1552), some (.int z1553)] [.int (Int32.ofInt (-1))] ph
      refine w_ret (v := (some (.int (Int32.ofInt (-1))))) (ykc_316 (e := (7, .ireturn, 0)) rfl) (zr_v rfl) ?_
      rw [hQ]
      exact ⟨rfl, Or.inr ⟨h1, rfl⟩⟩
    
  · refine w_alu (pc' := 28) (st' := [.int (Int32.ofInt (-1))]) (ykc_316 (e := (0, .iconst (-1), 0)) rfl) rfl rfl ?_
    refine w_ret (v := (some (.int (Int32.ofInt (-1))))) (ykc_316 (e := (7, .ireturn, 0)) rfl) (zr_v rfl) ?_
    rw [hQ]
    exact ⟨rfl, Or.inr ⟨fun k hk => absurd hk (by omega), rfl⟩⟩
theorem zj_ix2 {s B N : Nat} {cs : Nat → Nat} {ph : pm_H} (hst : zStr s B N cs) {c : Nat} (hc : c < 256) {x0 : Int32} (hx0 : x0.toInt = 0) : zM 309 [.ref s, .int (zn c), .int x0] ph (fun v0 q => ph = q ∧ ((∃ k, k < N ∧ cs k = c ∧ v0 = some (.int (zn k))) ∨ ((∀ k, k < N → cs k ≠ c) ∧ v0 = some (.int (Int32.ofInt (-1)))))) := by
  obtain ⟨Q, hQ⟩ : ∃ Q : Option Value → pm_H → Prop, Q = (fun v0 q => ph = q ∧ ((∃ k, k < N ∧ cs k = c ∧ v0 = some (.int (zn k))) ∨ ((∀ k, k < N → cs k ≠ c) ∧ v0 = some (.int (Int32.ofInt (-1)))))) := ⟨_, rfl⟩
  rw [← hQ]
  refine zM_mk fun n D => ?_
  show zW n D 309 Q 0 [some (.ref s), some (.int (zn c)), some (.int x0)] [] ph
  have hst0 := hst
  obtain ⟨i9, s1, s2, s3, s4, s5, f, s6, s7⟩ := hst
  have k0 : (0 : Int32).toInt = 0 := by decide
  have k1 : (1 : Int32).toInt = 1 := by decide
  refine w_load (pc' := 1) (v := .ref s) (m := 1) (ykc_309 (e := (2, .aload_n kF0, 0)) rfl) rfl rfl ?_
  refine w_cvr s1 (as := [.ref s]) (r := []) (ykc_309 (e := (6, .invokevirtual 492, 0)) rfl) rfl rfl rfl rfl (zj_latin hst0) (fun v1557 ph1558 hv => ?_)
  obtain ⟨rfl, rfl⟩ := hv
  show zW n D 309 Q 4 [some (.ref s), some (.int (zn c)), some (.int x0)] [.int (zI true)] ph
  refine w_beq (ykc_309 (e := (4, .ifCond .eq 19, 23)) rfl) rfl (fun q => absurd q (by decide)) (fun b1559 => ?_)
  refine w_load (pc' := 8) (v := .ref s) (m := 1) (ykc_309 (e := (2, .aload_n kF0, 0)) rfl) rfl rfl ?_
  refine w_gfr (pc' := 11) (v := .ref B) (ykc_309 (e := (5, .getfield 9, 0)) rfl) rfl s1 s2 rfl ?_
  refine w_load (pc' := 12) (v := .int (zn c)) (m := 1) (ykc_309 (e := (2, .iload_n kF1, 0)) rfl) rfl rfl ?_
  refine w_load (pc' := 13) (v := .int x0) (m := 1) (ykc_309 (e := (2, .iload_n kF2, 0)) rfl) rfl rfl ?_
  refine w_load (pc' := 14) (v := .ref s) (m := 1) (ykc_309 (e := (2, .aload_n kF0, 0)) rfl) rfl rfl ?_
  refine w_cvr s1 (as := [.ref s]) (r := [.int x0, .int (zn c), .ref B]) (ykc_309 (e := (6, .invokevirtual 505, 0)) rfl) rfl rfl rfl rfl (zj_len hst0) (fun v1560 ph1561 hv => ?_)
  obtain ⟨rfl, rfl⟩ := hv
  have tN := znt (k := N) (by omega)
  show zW n D 309 Q 17 [some (.ref s), some (.int (zn c)), some (.int x0)] [.int (zn N), .int x0, .int (zn c), .ref B] ph
  refine w_cs (as := [.ref B, .int (zn c), .int x0, .int (zn N)]) (r := []) (ykc_309 (e := (6, .invokestatic 637, 0)) rfl) rfl rfl rfl rfl (zj_ix4 hst0 hc hx0 (by omega)) (fun v1562 ph1563 hv => ?_)
  rcases hv with ⟨rfl, ⟨k, h1, h2, rfl⟩ | ⟨h1, rfl⟩⟩
  · show zW n D 309 Q 20 [some (.ref s), some (.int (zn c)), some (.int x0)] [.int (zn k)] ph
    refine w_br (pc' := 36) (st' := [.int (zn k)]) (ykc_309 (e := (4, .goto 16, 36)) rfl) rfl ?_
    refine w_ret (v := (some (.int (zn k)))) (ykc_309 (e := (7, .ireturn, 0)) rfl) (zr_v rfl) ?_
    rw [hQ]
    exact ⟨rfl, Or.inl ⟨k, h1, h2, rfl⟩⟩
  · show zW n D 309 Q 20 [some (.ref s), some (.int (zn c)), some (.int x0)] [.int (Int32.ofInt (-1))] ph
    refine w_br (pc' := 36) (st' := [.int (Int32.ofInt (-1))]) (ykc_309 (e := (4, .goto 16, 36)) rfl) rfl ?_
    refine w_ret (v := (some (.int (Int32.ofInt (-1))))) (ykc_309 (e := (7, .ireturn, 0)) rfl) (zr_v rfl) ?_
    rw [hQ]
    exact ⟨rfl, Or.inr ⟨h1, rfl⟩⟩
  
theorem zj_ix {s B N : Nat} {cs : Nat → Nat} {ph : pm_H} (hst : zStr s B N cs) {c : Nat} (hc : c < 256) : zM 308 [.ref s, .int (zn c)] ph (fun v0 q => ph = q ∧ ((∃ k, k < N ∧ cs k = c ∧ v0 = some (.int (zn k))) ∨ ((∀ k, k < N → cs k ≠ c) ∧ v0 = some (.int (Int32.ofInt (-1)))))) := by
  obtain ⟨Q, hQ⟩ : ∃ Q : Option Value → pm_H → Prop, Q = (fun v0 q => ph = q ∧ ((∃ k, k < N ∧ cs k = c ∧ v0 = some (.int (zn k))) ∨ ((∀ k, k < N → cs k ≠ c) ∧ v0 = some (.int (Int32.ofInt (-1)))))) := ⟨_, rfl⟩
  rw [← hQ]
  refine zM_mk fun n D => ?_
  show zW n D 308 Q 0 [some (.ref s), some (.int (zn c))] [] ph
  have c_0 : (Int32.ofInt 0).toInt = 0 := by decide
  have hst0 := hst
  obtain ⟨i9, s1, s2, s3, s4, s5, f, s6, s7⟩ := hst
  have k0 : (0 : Int32).toInt = 0 := by decide
  have k1 : (1 : Int32).toInt = 1 := by decide
  refine w_load (pc' := 1) (v := .ref s) (m := 1) (ykc_308 (e := (2, .aload_n kF0, 0)) rfl) rfl rfl ?_
  refine w_load (pc' := 2) (v := .int (zn c)) (m := 1) (ykc_308 (e := (2, .iload_n kF1, 0)) rfl) rfl rfl ?_
  refine w_alu (pc' := 3) (st' := [.int (Int32.ofInt 0), .int (zn c), .ref s]) (ykc_308 (e := (0, .iconst 0, 0)) rfl) rfl rfl ?_
  refine w_cvr s1 (as := [.ref s, .int (zn c), .int (Int32.ofInt 0)]) (r := []) (ykc_308 (e := (6, .invokevirtual 633, 0)) rfl) rfl rfl rfl rfl (zj_ix2 hst0 hc (by omega)) (fun v1564 ph1565 hv => ?_)
  rcases hv with ⟨rfl, ⟨k, h1, h2, rfl⟩ | ⟨h1, rfl⟩⟩
  · show zW n D 308 Q 6 [some (.ref s), some (.int (zn c))] [.int (zn k)] ph
    refine w_ret (v := (some (.int (zn k)))) (ykc_308 (e := (7, .ireturn, 0)) rfl) (zr_v rfl) ?_
    rw [hQ]
    exact ⟨rfl, Or.inl ⟨k, h1, h2, rfl⟩⟩
  · show zW n D 308 Q 6 [some (.ref s), some (.int (zn c))] [.int (Int32.ofInt (-1))] ph
    refine w_ret (v := (some (.int (Int32.ofInt (-1))))) (ykc_308 (e := (7, .ireturn, 0)) rfl) (zr_v rfl) ?_
    rw [hQ]
    exact ⟨rfl, Or.inr ⟨h1, rfl⟩⟩
  
theorem zlt_ls : ∀ k, k < 8 → zlt (zls [98, 108, 107, 102, 114, 99, 110, 112] k) = k := by decide
theorem zlt_ls2 {c : Nat} (h : zlt c < 8) : zls [98, 108, 107, 102, 114, 99, 110, 112] (zlt c) = c := by
  unfold zlt at h ⊢
  repeat' split
  all_goals first | (subst_vars; rfl) | (exfalso; simp_all)
/-- a letter's place -/
theorem zc_letter {c : Nat} {ph : pm_H} (hc : c < 256) : zM 308 [.ref 1048626, .int (zn c)] ph (fun v0 q => ph = q ∧ ((zlt c < 8 ∧ v0 = some (.int (zn (zlt c)))) ∨ (¬ zlt c < 8 ∧ v0 = some (.int (Int32.ofInt (-1)))))) := zM_imp (zj_ix zstr_letc hc) fun v q h => by
  obtain ⟨h0, ⟨k, h1, h2, h3⟩ | ⟨h1, h2⟩⟩ := h
  · have e : zlt c = k := by rw [← h2]; exact zlt_ls k h1
    exact ⟨h0, Or.inl ⟨by omega, by rw [e]; exact h3⟩⟩
  · exact ⟨h0, Or.inr ⟨fun q => h1 _ q (zlt_ls2 q), h2⟩⟩
end
section
/-! the class reads a RULE: take, read, by W; printed by wip/z/z1h_read.py -/
def zFs (ph : pm_H) (F : Nat) (s : zAs) : Prop := zFp ph F ∧ zFc ph F s.1 ∧ zFw ph F s.2.1 ∧ zFb ph F s.2.2.1 ∧ zFd ph F s.2.2.2.1 s.2.2.2.2.1 s.2.2.2.2.2
def zFf (F : Nat) (p q : pm_H) : Prop := zFr [F + 1, F + 2, F + 3] [(F, 1), (F, 3), (F, 5), (F, 6), (F, 7)] p q
theorem zFs_mk {ph : pm_H} {F : Nat} {C W : List Nat} {cm : Nat → Bool} {dp dg : Nat} {wt : Bool} (h : zFp ph F ∧ zFc ph F C ∧ zFw ph F W ∧ zFb ph F cm ∧ zFd ph F dp dg wt) : zFs ph F (C, W, cm, dp, dg, wt) := h
theorem zTk1 {ph q : pm_H} {F c : Nat} {s0 s : zAs} (f : zFf F ph q) (h : zstep c s0 = some s) (hF : zFs q F s) : zFf F ph q ∧ (∃ cm9, zFb q F cm9) ∧ ((∃ s', zstep c s0 = some s' ∧ (some (Value.int (zI true)) : Option Value) = some (.int (zI true)) ∧ zFs q F s') ∨ (zstep c s0 = none ∧ (some (Value.int (zI true)) : Option Value) = some (.int (zI false)))) := ⟨f, ⟨_, hF.2.2.2.1⟩, Or.inl ⟨s, h, rfl, hF⟩⟩
/-- a number that is being told -/
def zIv (s : zAs) : Prop := 1 ≤ s.2.2.2.2.1 → ∃ x C, s.1 = x :: C ∧ x < 10 ^ s.2.2.2.2.1
def zLn (s : zAs) : Nat := s.1.length + s.2.1.length
theorem zi2c : (List.range 256).all (fun c => decide (((zn c).toUInt32 % 65536).toInt32 = zn c)) = true := by decide +kernel
theorem zi2cc {c : Nat} (h : c < 256) : ((zn c).toUInt32 % 65536).toInt32 = zn c := of_decide_eq_true (List.all_eq_true.mp zi2c c (List.mem_range.mpr h))
theorem zdi_t {c : Nat} (h : 48 ≤ c ∧ c ≤ 57) : zdi c = true := decide_eq_true h
theorem zdi_f {c : Nat} (h : ¬ (48 ≤ c ∧ c ≤ 57)) : zdi c = false := decide_eq_false h
theorem zstep_iv {c : Nat} {s s' : zAs} (hi : zIv s) (h : zstep c s = some s') : zIv s' ∧ zLn s' ≤ zLn s + 1 := by
  obtain ⟨C, W, cm, dp, dg, wt⟩ := s
  unfold zstep at h
  simp only at h
  have z0 : ∀ (C W : List Nat) (cm : Nat → Bool) (dp : Nat) (wt : Bool), zIv (C, W, cm, dp, 0, wt) := fun C W cm dp wt h => absurd h (by show ¬ 1 ≤ 0; decide)
  by_cases e1 : zdi c = true
  · rw [if_pos e1] at h
    have hc : 48 ≤ c ∧ c ≤ 57 := of_decide_eq_true e1
    by_cases e2 : wt = true
    · rw [if_pos e2] at h
      cases h
      exact ⟨fun _ => ⟨_, _, rfl, by show c - 48 < 10 ^ 1; omega⟩, by show C.length + 1 + W.length ≤ C.length + W.length + 1; omega⟩
    · rw [if_neg e2] at h
      cases C with
      | nil => cases h
      | cons x C =>
        by_cases e3 : 1 ≤ dg ∧ dg ≤ 2
        · simp only [if_pos e3] at h
          cases h
          obtain ⟨x2, C2, g1, g2⟩ := hi e3.1
          have g1 : x :: C = x2 :: C2 := g1
          cases g1
          have g2 : x < 10 ^ dg := g2
          refine ⟨fun _ => ⟨_, _, rfl, ?_⟩, by show C.length + 1 + W.length ≤ C.length + 1 + W.length + 1; omega⟩
          show 10 * x + (c - 48) < 10 ^ (dg + 1)
          rw [Nat.pow_succ]
          omega
        · simp only [if_neg e3] at h
          cases h
  · rw [if_neg e1] at h
    by_cases e2 : wt = true
    · rw [if_pos e2] at h
      by_cases e3 : c = 45
      · rw [if_pos e3] at h
        cases h
        exact ⟨z0 _ _ _ _ _, by show C.length + (W.length + 1) ≤ C.length + W.length + 1; omega⟩
      · rw [if_neg e3] at h
        by_cases e4 : c = 40
        · rw [if_pos e4] at h
          by_cases e5 : dp < 4
          · rw [if_pos e5] at h
            cases h
            exact ⟨z0 _ _ _ _ _, by show C.length + (W.length + 1) ≤ C.length + W.length + 1; omega⟩
          · rw [if_neg e5] at h
            cases h
        · rw [if_neg e4] at h
          by_cases e5 : zlt c < 8
          · rw [if_pos e5] at h
            cases h
            exact ⟨z0 _ _ _ _ _, by show C.length + 1 + W.length ≤ C.length + W.length + 1; omega⟩
          · rw [if_neg e5] at h
            cases h
    · rw [if_neg e2] at h
      have hl := fun b => @zrl_len b W C
      by_cases e3 : c = 41
      · rw [if_pos e3] at h
        by_cases e4 : dp = 0
        · rw [if_pos e4] at h
          cases h
        · rw [if_neg e4] at h
          cases h
          refine ⟨z0 _ _ _ _ _, ?_⟩
          show (zrl 1 W C).2.length + (zrl 1 W C).1.tail.length ≤ C.length + W.length + 1
          have := hl 1
          rw [List.length_tail]
          omega
      · rw [if_neg e3] at h
        by_cases e4 : zop c = 0
        · rw [if_pos e4] at h
          cases h
        · rw [if_neg e4] at h
          by_cases e5 : zbd (zop c) = 1 ∧ cm dp = true
          · rw [if_pos e5] at h
            cases h
          · rw [if_neg e5] at h
            cases h
            refine ⟨z0 _ _ _ _ _, ?_⟩
            show (zrl (zbd (zop c)) W C).2.length + ((zrl (zbd (zop c)) W C).1.length + 1) ≤ C.length + W.length + 1
            have := hl (zbd (zop c))
            omega
theorem zc_takeD {ph : pm_H} {F : Nat} {C W : List Nat} {cm : Nat → Bool} {dp dg : Nat} {wt : Bool} {d : Nat} (hd9 : d ≤ 9) (hiv : zIv (C, W, cm, dp, dg, wt)) (hF : zFs ph F (C, W, cm, dp, dg, wt)) (h40 : C.length + W.length < 40) : zM 5 [.ref F, .int (zn d)] ph (fun v0 q => zFf F ph q ∧ (∃ cm9, zFb q F cm9) ∧ ((∃ s, zstep (48 + d) (C, W, cm, dp, dg, wt) = some s ∧ v0 = some (.int (zI true)) ∧ zFs q F s) ∨ (zstep (48 + d) (C, W, cm, dp, dg, wt) = none ∧ v0 = some (.int (zI false))))) := by
  obtain ⟨Q, hQ⟩ : ∃ Q : Option Value → pm_H → Prop, Q = (fun v0 q => zFf F ph q ∧ (∃ cm9, zFb q F cm9) ∧ ((∃ s, zstep (48 + d) (C, W, cm, dp, dg, wt) = some s ∧ v0 = some (.int (zI true)) ∧ zFs q F s) ∨ (zstep (48 + d) (C, W, cm, dp, dg, wt) = none ∧ v0 = some (.int (zI false))))) := ⟨_, rfl⟩
  rw [← hQ]
  refine zM_mk fun n D => ?_
  show zW n D 5 Q 0 [some (.ref F), some (.int (zn d))] [] ph
  have c_0 : ((Int8.ofInt 10).toInt32).toInt = 10 := by decide
  have c_1 : (Int32.ofInt 0).toInt = 0 := by decide
  have c_2 : (Int32.ofInt 1).toInt = 1 := by decide
  have c_3 : (Int32.ofInt 2).toInt = 2 := by decide
  obtain ⟨hp, hC, hW, hb, hd⟩ := hF
  have hp : zFp ph F := hp
  have hC : zFc ph F C := hC
  have hW : zFw ph F W := hW
  have hb : zFb ph F cm := hb
  have hd : zFd ph F dp dg wt := hd
  have tdp := znt (k := dp) (by have := hd.2.1; omega)
  have tdg := znt (k := dg) (by have := hd.2.2.2.1; omega)
  have hdp4 := hd.2.1
  have hdg3 := hd.2.2.2.1
  have tCl := znt (k := C.length) (by omega)
  have tWl := znt (k := W.length) (by omega)
  have td := znt (k := d) (by omega)
  have hdi : zdi (48 + d) = true := zdi_t (by omega)
  refine w_load (pc' := 1) (v := .ref F) (m := 1) (ykc_5 (e := (2, .aload_n kF0, 0)) rfl) rfl rfl ?_
  refine w_gf (pc' := 4) (v := .int (zI wt)) (ykc_5 (e := (5, .getfield 43, 0)) rfl) rfl hd.2.2.2.2 rfl ?_
  refine w_beq (ykc_5 (e := (4, .ifCond .eq 20, 24)) rfl) rfl (fun b1566 => ?_) (fun b1566 => ?_)
  · refine w_load (pc' := 25) (v := .ref F) (m := 1) (ykc_5 (e := (2, .aload_n kF0, 0)) rfl) rfl rfl ?_
    refine w_gf (pc' := 28) (v := .int (zn dg)) (ykc_5 (e := (5, .getfield 60, 0)) rfl) rfl hd.2.2.1 rfl ?_
    refine w_alu (pc' := 29) (st' := [.int (Int32.ofInt 1), .int (zn dg)]) (ykc_5 (e := (0, .iconst 1, 0)) rfl) rfl rfl ?_
    refine w_ilt (ykc_5 (e := (4, .if_icmp .lt 19, 48)) rfl) rfl (fun b1567 => ?_) (fun b1567 => ?_)
    · refine w_alu (pc' := 49) (st' := [.int (Int32.ofInt 0)]) (ykc_5 (e := (0, .iconst 0, 0)) rfl) rfl rfl ?_
      refine w_ret (v := (some (.int (Int32.ofInt 0)))) (ykc_5 (e := (7, .ireturn, 0)) rfl) zr_z ?_
      rw [hQ, zi0]
      have hwt : wt = false := b1566
      subst hwt
      exact ⟨zFr_refl, ⟨cm, hb⟩, Or.inr ⟨zstep_d0 hdi (by omega), rfl⟩⟩
    · obtain ⟨x, C1, eC, hx⟩ := hiv (by show 1 ≤ dg; omega)
      have eC : C = x :: C1 := eC
      subst eC
      have hlx : (x :: C1).length = C1.length + 1 := rfl
      have hx : x < 10 ^ dg := hx
      have tC1 := znt (k := C1.length + 1) (by show (x :: C1).length < _; omega)
      have tC0 := znt (k := C1.length) (by have : (x :: C1).length = C1.length + 1 := rfl; omega)
      refine w_load (pc' := 33) (v := .ref F) (m := 1) (ykc_5 (e := (2, .aload_n kF0, 0)) rfl) rfl rfl ?_
      refine w_gf (pc' := 36) (v := .int (zn dg)) (ykc_5 (e := (5, .getfield 60, 0)) rfl) rfl hd.2.2.1 rfl ?_
      refine w_alu (pc' := 37) (st' := [.int (Int32.ofInt 2), .int (zn dg)]) (ykc_5 (e := (0, .iconst 2, 0)) rfl) rfl rfl ?_
      refine w_igt (ykc_5 (e := (4, .if_icmp .gt 11, 48)) rfl) rfl (fun b1568 => ?_) (fun b1568 => ?_)
      · refine w_alu (pc' := 49) (st' := [.int (Int32.ofInt 0)]) (ykc_5 (e := (0, .iconst 0, 0)) rfl) rfl rfl ?_
        refine w_ret (v := (some (.int (Int32.ofInt 0)))) (ykc_5 (e := (7, .ireturn, 0)) rfl) zr_z ?_
        rw [hQ, zi0]
        have hwt : wt = false := b1566
        subst hwt
        exact ⟨zFr_refl, ⟨cm, hb⟩, Or.inr ⟨zstep_d0 hdi (by omega), rfl⟩⟩
      · refine w_load (pc' := 41) (v := .ref F) (m := 1) (ykc_5 (e := (2, .aload_n kF0, 0)) rfl) rfl rfl ?_
        refine w_gf (pc' := 44) (v := .int (zn (C1.length + 1))) (ykc_5 (e := (5, .getfield 55, 0)) rfl) rfl hC.1 rfl ?_
        refine w_alu (pc' := 45) (st' := [.int (Int32.ofInt 1), .int (zn (C1.length + 1))]) (ykc_5 (e := (0, .iconst 1, 0)) rfl) rfl rfl ?_
        refine w_ige (ykc_5 (e := (4, .if_icmp .ge 5, 50)) rfl) rfl (fun b1569 => ?_) (fun q => by exfalso; omega)
        have hx2 : x < 100 := by
          rcases (show dg = 1 ∨ dg = 2 by omega) with e | e <;> subst e <;> omega
        have tx := znt (k := x) (by omega)
        have ex : zcc x = zn x := zcc_n (by omega)
        have hx0 := (hC.2 0 x rfl).1
        rw [show (x :: C1).length - 1 - 0 = C1.length by simp, ex] at hx0
        refine w_load (pc' := 51) (v := .ref F) (m := 1) (ykc_5 (e := (2, .aload_n kF0, 0)) rfl) rfl rfl ?_
        refine w_gf (pc' := 54) (v := .ref (F + 1)) (ykc_5 (e := (5, .getfield 9, 0)) rfl) rfl hp.1 rfl ?_
        refine w_load (pc' := 55) (v := .ref F) (m := 1) (ykc_5 (e := (2, .aload_n kF0, 0)) rfl) rfl rfl ?_
        refine w_gf (pc' := 58) (v := .int (zn (C1.length + 1))) (ykc_5 (e := (5, .getfield 55, 0)) rfl) rfl hC.1 rfl ?_
        refine w_alu (pc' := 59) (st' := [.int (Int32.ofInt 1), .int (zn (C1.length + 1)), .ref (F + 1)]) (ykc_5 (e := (0, .iconst 1, 0)) rfl) rfl rfl ?_
        have e1570 : (zn (C1.length + 1)) - (Int32.ofInt 1) = zn (C1.length) := zsubN (a := C1.length + 1) (b := 1) (znt (by omega)) c_2 (by omega)
        have te1570 := znt (k := C1.length) (by omega)
        refine w_alu (pc' := 60) (st' := [.int (zn (C1.length)), .ref (F + 1)]) (ykc_5 (e := (0, .isub, 0)) rfl) (by show some ([.int ((zn (C1.length + 1)) - (Int32.ofInt 1)), .ref (F + 1)] : List Value) = _; rw [e1570]) rfl ?_
        refine w_load (pc' := 61) (v := .ref F) (m := 1) (ykc_5 (e := (2, .aload_n kF0, 0)) rfl) rfl rfl ?_
        refine w_gf (pc' := 64) (v := .ref (F + 1)) (ykc_5 (e := (5, .getfield 9, 0)) rfl) rfl hp.1 rfl ?_
        refine w_load (pc' := 65) (v := .ref F) (m := 1) (ykc_5 (e := (2, .aload_n kF0, 0)) rfl) rfl rfl ?_
        refine w_gf (pc' := 68) (v := .int (zn (C1.length + 1))) (ykc_5 (e := (5, .getfield 55, 0)) rfl) rfl hC.1 rfl ?_
        refine w_alu (pc' := 69) (st' := [.int (Int32.ofInt 1), .int (zn (C1.length + 1)), .ref (F + 1), .int (zn (C1.length)), .ref (F + 1)]) (ykc_5 (e := (0, .iconst 1, 0)) rfl) rfl rfl ?_
        have e1571 : (zn (C1.length + 1)) - (Int32.ofInt 1) = zn (C1.length) := zsubN (a := C1.length + 1) (b := 1) (znt (by omega)) c_2 (by omega)
        have te1571 := znt (k := C1.length) (by omega)
        refine w_alu (pc' := 70) (st' := [.int (zn (C1.length)), .ref (F + 1), .int (zn (C1.length)), .ref (F + 1)]) (ykc_5 (e := (0, .isub, 0)) rfl) (by show some ([.int ((zn (C1.length + 1)) - (Int32.ofInt 1)), .ref (F + 1), .int (zn (C1.length)), .ref (F + 1)] : List Value) = _; rw [e1571]) rfl ?_
        refine w_ialk (pc' := 71) (k := C1.length) (ykc_5 (e := (5, .iaload, 0)) rfl) hx0 (by omega) rfl ?_
        refine w_push (pc' := 73) (v := .int ((Int8.ofInt 10).toInt32)) (m := 2) (ykc_5 (e := (1, .bipush 10, 0)) rfl) rfl rfl ?_
        have e1572 : (zn x) * ((Int8.ofInt 10).toInt32) = zn (x * 10) := zn_of (by rw [ti_mul (by rw [show (zn x).toInt = ((x : Nat) : Int) by omega, show ((Int8.ofInt 10).toInt32).toInt = (10 : Int) by omega]; omega) (by rw [show (zn x).toInt = ((x : Nat) : Int) by omega, show ((Int8.ofInt 10).toInt32).toInt = (10 : Int) by omega]; omega), show (zn x).toInt = ((x : Nat) : Int) by omega, show ((Int8.ofInt 10).toInt32).toInt = (10 : Int) by omega] <;> omega)
        have te1572 := znt (k := x * 10) (by omega)
        refine w_alu (pc' := 74) (st' := [.int (zn (x * 10)), .int (zn (C1.length)), .ref (F + 1)]) (ykc_5 (e := (0, .imul, 0)) rfl) (by rw [← e1572]; rfl) rfl ?_
        refine w_load (pc' := 75) (v := .int (zn d)) (m := 1) (ykc_5 (e := (2, .iload_n kF1, 0)) rfl) rfl rfl ?_
        have e1573 : (zn (x * 10)) + (zn d) = zn (x * 10 + d) := (zaddN (a := x * 10) (b := d) (znt (by omega)) (znt (by omega)) (by omega)) 
        have te1573 := znt (k := x * 10 + d) (by omega)
        refine w_alu (pc' := 76) (st' := [.int (zn (x * 10 + d)), .int (zn (C1.length)), .ref (F + 1)]) (ykc_5 (e := (0, .iadd, 0)) rfl) (by rw [← e1573]; rfl) rfl ?_
        refine w_ias (pc' := 77) (k := C1.length) (ykc_5 (e := (5, .iastore, 0)) rfl) (by omega) rfl (fun ph1575 u1574 => ?_)
        refine w_load (pc' := 78) (v := .ref F) (m := 1) (ykc_5 (e := (2, .aload_n kF0, 0)) rfl) rfl rfl ?_
        refine w_alu (pc' := 79) (st' := [.ref F, .ref F]) (ykc_5 (e := (0, .dup, 0)) rfl) rfl rfl ?_
        refine w_gf (pc' := 82) (v := .int (zn dg)) (ykc_5 (e := (5, .getfield 60, 0)) rfl) rfl ((u1574.2.1 F 6 (fun q => by have q2 := q.1; omega)).trans hd.2.2.1) rfl ?_
        refine w_alu (pc' := 83) (st' := [.int (Int32.ofInt 1), .int (zn dg), .ref F]) (ykc_5 (e := (0, .iconst 1, 0)) rfl) rfl rfl ?_
        have e1576 : (zn dg) + (Int32.ofInt 1) = zn (dg + 1) := (zaddN (a := dg) (b := 1) (znt (by omega)) c_2 (by omega)) 
        have te1576 := znt (k := dg + 1) (by omega)
        refine w_alu (pc' := 84) (st' := [.int (zn (dg + 1)), .ref F]) (ykc_5 (e := (0, .iadd, 0)) rfl) (by rw [← e1576]; rfl) rfl ?_
        refine w_pf (pc' := 87) (ykc_5 (e := (5, .putfield 60, 0)) rfl) rfl rfl (fun ph1578 u1577 => ?_)
        refine w_alu (pc' := 88) (st' := [.int (Int32.ofInt 1)]) (ykc_5 (e := (0, .iconst 1, 0)) rfl) rfl rfl ?_
        refine w_ret (v := (some (.int (Int32.ofInt 1)))) (ykc_5 (e := (7, .ireturn, 0)) rfl) zr_z ?_
        have hwt : wt = false := b1566
        subst hwt
        have hc2 : zFc ph1578 F ((10 * x + (48 + d - 48)) :: C1) := by
          refine ⟨((u1577.2.1 F 1 (fun q => absurd q.2 (by decide))).trans ((u1574.2.1 F 1 (fun q => by have q2 := q.1; omega)).trans hC.1)), fun i c hc => ?_⟩
          cases i with
          | zero =>
            cases hc
            refine ⟨?_, Or.inl (by omega)⟩
            rw [show ((10 * x + (48 + d - 48)) :: C1).length - 1 - 0 = C1.length by simp, zcc_n (by omega), show 10 * x + (48 + d - 48) = x * 10 + d by omega]
            exact (u1577.2.1 (F + 1) C1.length (fun q => by have q1 := q.1; omega)).trans u1574.1
          | succ i =>
            have h1 := hC.2 (i + 1) c hc
            have hi := (List.getElem?_eq_some_iff.mp (show C1[i]? = some c from hc)).1
            refine ⟨?_, h1.2⟩
            refine (u1577.2.1 (F + 1) _ (fun q => by have q1 := q.1; omega)).trans ((u1574.2.1 (F + 1) _ (fun q => ?_)).trans h1.1)
            have q2 : (x :: C1).length - 1 - (i + 1) = C1.length := q.2
            simp only [List.length_cons] at q2
            omega
        have f1 : zFr [F + 1] [(F, 6)] ph ph1578 := zFr_trans (zFr_st u1574 (Or.inl (by simp))) (zFr_st u1577 (Or.inr (by simp)))
        rw [hQ, zi1]
        exact zTk1 (show zFr [F + 1, F + 2, F + 3] [(F, 1), (F, 3), (F, 5), (F, 6), (F, 7)] ph ph1578 from (zFr_trans (zFr_st u1574 (Or.inl (by simp))) (zFr_st u1577 (Or.inr (by simp))))) (zstep_d2 hdi (by omega)) (zFs_mk ⟨zFp_F f1 (by simp) (by simp) hp, hc2, zFw_F f1 (by simp) (by simp) hW, zFb_F f1 (by simp) (by simp) hb, ⟨((u1577.2.1 F 5 (fun q => absurd q.2 (by decide))).trans ((u1574.2.1 F 5 (fun q => by have q2 := q.1; omega)).trans hd.1)), hd.2.1, u1577.1, by omega, ((u1577.2.1 F 7 (fun q => absurd q.2 (by decide))).trans ((u1574.2.1 F 7 (fun q => by have q2 := q.1; omega)).trans hd.2.2.2.2))⟩⟩)
  · refine w_load (pc' := 8) (v := .ref F) (m := 1) (ykc_5 (e := (2, .aload_n kF0, 0)) rfl) rfl rfl ?_
    refine w_load (pc' := 9) (v := .int (zn d)) (m := 1) (ykc_5 (e := (2, .iload_n kF1, 0)) rfl) rfl rfl ?_
    refine w_cv (as := [.ref F, .int (zn d)]) (r := []) (ykc_5 (e := (6, .invokevirtual 70, 0)) rfl) rfl rfl rfl rfl (zc_emit hp.1 hC.1 (by omega)) (fun v1579 ph1580 hv => ?_)
    obtain ⟨rfl, fe, g1_fe, g2_fe, g3_fe⟩ := hv
    show zW n D 5 Q 12 [some (.ref F), some (.int (zn d))] [] ph1580
    refine w_load (pc' := 13) (v := .ref F) (m := 1) (ykc_5 (e := (2, .aload_n kF0, 0)) rfl) rfl rfl ?_
    refine w_alu (pc' := 14) (st' := [.int (Int32.ofInt 1), .ref F]) (ykc_5 (e := (0, .iconst 1, 0)) rfl) rfl rfl ?_
    refine w_pf (pc' := 17) (ykc_5 (e := (5, .putfield 60, 0)) rfl) rfl rfl (fun ph1582 u1581 => ?_)
    refine w_load (pc' := 18) (v := .ref F) (m := 1) (ykc_5 (e := (2, .aload_n kF0, 0)) rfl) rfl rfl ?_
    refine w_alu (pc' := 19) (st' := [.int (Int32.ofInt 0), .ref F]) (ykc_5 (e := (0, .iconst 0, 0)) rfl) rfl rfl ?_
    refine w_pf (pc' := 22) (ykc_5 (e := (5, .putfield 43, 0)) rfl) rfl rfl (fun ph1584 u1583 => ?_)
    refine w_alu (pc' := 23) (st' := [.int (Int32.ofInt 1)]) (ykc_5 (e := (0, .iconst 1, 0)) rfl) rfl rfl ?_
    refine w_ret (v := (some (.int (Int32.ofInt 1)))) (ykc_5 (e := (7, .ireturn, 0)) rfl) zr_z ?_
    rw [hQ, zi1]
    have hwt : wt = true := b1566
    subst hwt
    have f2 : zFr [] [(F, 6), (F, 7)] _ ph1584 := zFr_trans (zFr_st u1581 (Or.inr (by simp))) (zFr_st u1583 (Or.inr (by simp)))
    have h6 : zc ph1584 F 6 = some (.int (zn 1)) := ((u1583.2.1 F 6 (fun q => absurd q.2 (by decide))).trans u1581.1)
    have h7 : zc ph1584 F 7 = some (.int (zI false)) := u1583.1
    exact zTk1 (show zFr [F + 1, F + 2, F + 3] [(F, 1), (F, 3), (F, 5), (F, 6), (F, 7)] ph ph1584 from (zFr_trans (zFr_trans (zFr_mono fe (by simp) (by simp)) (zFr_st u1581 (Or.inr (by simp)))) (zFr_st u1583 (Or.inr (by simp))))) (zstep_d1 hdi) (zFs_mk ⟨zFp_F f2 (by simp) (by simp) (zFp_F fe (by simp) (by simp) hp), zFc_F f2 (by simp) (by simp) (zFc_c (c := 48 + d - 48) hC g1_fe (by rw [show 48 + d - 48 = d by omega, zcc_n (by omega)]; exact g2_fe) g3_fe (Or.inl (by omega))), zFw_F f2 (by simp) (by simp) (zFw_F fe (by simp) (by simp) hW), zFb_F f2 (by simp) (by simp) (zFb_F fe (by simp) (by simp) hb), ⟨((u1583.2.1 F 5 (fun q => absurd q.2 (by decide))).trans ((u1581.2.1 F 5 (fun q => absurd q.2 (by decide))).trans ((fe.1 F 5 (by simp <;> omega) (by simp <;> omega)).trans hd.1))), hd.2.1, h6, by decide, h7⟩⟩)
theorem zc_takeT {ph : pm_H} {F : Nat} {C W : List Nat} {cm : Nat → Bool} {dp : Nat} {c : Nat} (hc : c < 256) (hnd : zdi c = false) (hF : zFs ph F (C, W, cm, dp, 0, true)) (h40 : C.length + W.length < 40) : zM 6 [.ref F, .int (zn c)] ph (fun v0 q => zFf F ph q ∧ (∃ cm9, zFb q F cm9) ∧ ((∃ s, zstep c (C, W, cm, dp, 0, true) = some s ∧ v0 = some (.int (zI true)) ∧ zFs q F s) ∨ (zstep c (C, W, cm, dp, 0, true) = none ∧ v0 = some (.int (zI false))))) := by
  obtain ⟨Q, hQ⟩ : ∃ Q : Option Value → pm_H → Prop, Q = (fun v0 q => zFf F ph q ∧ (∃ cm9, zFb q F cm9) ∧ ((∃ s, zstep c (C, W, cm, dp, 0, true) = some s ∧ v0 = some (.int (zI true)) ∧ zFs q F s) ∨ (zstep c (C, W, cm, dp, 0, true) = none ∧ v0 = some (.int (zI false))))) := ⟨_, rfl⟩
  rw [← hQ]
  refine zM_mk fun n D => ?_
  show zW n D 6 Q 0 [some (.ref F), some (.int (zn c)), none] [] ph
  have c_0 : ((Int16.ofInt 1000).toInt32).toInt = 1000 := by decide
  have c_1 : ((Int8.ofInt 109).toInt32).toInt = 109 := by decide
  have c_2 : ((Int8.ofInt 40).toInt32).toInt = 40 := by decide
  have c_3 : ((Int8.ofInt 45).toInt32).toInt = 45 := by decide
  have c_4 : (Int32.ofInt 0).toInt = 0 := by decide
  have c_5 : (Int32.ofInt 1).toInt = 1 := by decide
  have c_6 : (Int32.ofInt 4).toInt = 4 := by decide
  obtain ⟨hp, hC, hW, hb, hd⟩ := hF
  have hp : zFp ph F := hp
  have hC : zFc ph F C := hC
  have hW : zFw ph F W := hW
  have hb : zFb ph F cm := hb
  have hd : zFd ph F dp 0 true := hd
  have tdp := znt (k := dp) (by have := hd.2.1; omega)
  have tdg := znt (k := 0) (by have := hd.2.2.2.1; omega)
  have hdp4 := hd.2.1
  have hdg3 := hd.2.2.2.1
  have tCl := znt (k := C.length) (by omega)
  have tWl := znt (k := W.length) (by omega)
  have tc := znt (k := c) (by omega)
  refine w_load (pc' := 1) (v := .int (zn c)) (m := 1) (ykc_6 (e := (2, .iload_n kF1, 0)) rfl) rfl rfl ?_
  refine w_push (pc' := 3) (v := .int ((Int8.ofInt 45).toInt32)) (m := 2) (ykc_6 (e := (1, .bipush 45, 0)) rfl) rfl rfl ?_
  refine w_ine (ykc_6 (e := (4, .if_icmp .ne 11, 14)) rfl) rfl (fun b1585 => ?_) (fun b1585 => ?_)
  · refine w_load (pc' := 15) (v := .int (zn c)) (m := 1) (ykc_6 (e := (2, .iload_n kF1, 0)) rfl) rfl rfl ?_
    refine w_push (pc' := 17) (v := .int ((Int8.ofInt 40).toInt32)) (m := 2) (ykc_6 (e := (1, .bipush 40, 0)) rfl) rfl rfl ?_
    refine w_ine (ykc_6 (e := (4, .if_icmp .ne 48, 65)) rfl) rfl (fun b1586 => ?_) (fun b1586 => ?_)
    · refine w_push (pc' := 67) (v := .ref 1048626) (m := 2) (ykc_6 (e := (1, .ldc 63, 0)) rfl) rfl rfl ?_
      refine w_load (pc' := 68) (v := .int (zn c)) (m := 1) (ykc_6 (e := (2, .iload_n kF1, 0)) rfl) rfl rfl ?_
      refine w_alu (pc' := 69) (st' := [.int (zn c), .ref 1048626]) (ykc_6 (e := (0, .i2c, 0)) rfl) (by show some ([.int (((zn c).toUInt32 % 65536).toInt32), .ref 1048626] : List Value) = _; rw [(zi2cc hc : ((zn c).toUInt32 % 65536).toInt32 = zn c)]) rfl ?_
      refine w_cvr (show Nat.blt 1048626 1048576 = false ∧ 1048626 - 1048576 = 50 from ⟨rfl, rfl⟩) (as := [.ref 1048626, .int (zn c)]) (r := []) (ykc_6 (e := (6, .invokevirtual 65, 0)) rfl) rfl rfl rfl rfl (zc_letter hc) (fun v1587 ph1588 hv => ?_)
      rcases hv with ⟨rfl, ⟨h8, rfl⟩ | ⟨h8, rfl⟩⟩
      · have t8 := znt (k := zlt c) (by omega)
        show zW n D 6 Q 72 [some (.ref F), some (.int (zn c)), none] [.int (zn (zlt c))] ph
        refine w_store (pc' := 73) (L' := [some (.ref F), some (.int (zn c)), some (.int (zn (zlt c)))]) (st' := []) (m := 1) (ykc_6 (e := (3, .istore_n kF2, 0)) rfl) rfl rfl ?_
        refine w_load (pc' := 74) (v := .int (zn (zlt c))) (m := 1) (ykc_6 (e := (2, .iload_n kF2, 0)) rfl) rfl rfl ?_
        refine w_zge (ykc_6 (e := (4, .ifCond .ge 5, 79)) rfl) rfl (fun b1589 => ?_) (fun q => by exfalso; omega)
        refine w_load (pc' := 80) (v := .ref F) (m := 1) (ykc_6 (e := (2, .aload_n kF0, 0)) rfl) rfl rfl ?_
        refine w_push (pc' := 83) (v := .int ((Int16.ofInt 1000).toInt32)) (m := 3) (ykc_6 (e := (1, .sipush 1000, 0)) rfl) rfl rfl ?_
        refine w_load (pc' := 84) (v := .int (zn (zlt c))) (m := 1) (ykc_6 (e := (2, .iload_n kF2, 0)) rfl) rfl rfl ?_
        have e1590 : ((Int16.ofInt 1000).toInt32) + (zn (zlt c)) = zn (1000 + (zlt c)) := (zaddN (a := 1000) (b := zlt c) c_0 (znt (by omega)) (by omega)) 
        have te1590 := znt (k := 1000 + (zlt c)) (by omega)
        refine w_alu (pc' := 85) (st' := [.int (zn (1000 + (zlt c))), .ref F]) (ykc_6 (e := (0, .iadd, 0)) rfl) (by rw [← e1590]; rfl) rfl ?_
        refine w_cv (as := [.ref F, .int (zn (1000 + (zlt c)))]) (r := []) (ykc_6 (e := (6, .invokevirtual 70, 0)) rfl) rfl rfl rfl rfl (zc_emit hp.1 hC.1 (by omega)) (fun v1591 ph1592 hv => ?_)
        obtain ⟨rfl, fe, g1_fe, g2_fe, g3_fe⟩ := hv
        show zW n D 6 Q 88 [some (.ref F), some (.int (zn c)), some (.int (zn (zlt c)))] [] ph1592
        refine w_load (pc' := 89) (v := .ref F) (m := 1) (ykc_6 (e := (2, .aload_n kF0, 0)) rfl) rfl rfl ?_
        refine w_alu (pc' := 90) (st' := [.int (Int32.ofInt 0), .ref F]) (ykc_6 (e := (0, .iconst 0, 0)) rfl) rfl rfl ?_
        refine w_pf (pc' := 93) (ykc_6 (e := (5, .putfield 43, 0)) rfl) rfl rfl (fun ph1594 u1593 => ?_)
        refine w_alu (pc' := 94) (st' := [.int (Int32.ofInt 1)]) (ykc_6 (e := (0, .iconst 1, 0)) rfl) rfl rfl ?_
        refine w_ret (v := (some (.int (Int32.ofInt 1)))) (ykc_6 (e := (7, .ireturn, 0)) rfl) zr_z ?_
        have f2 : zFr [] [(F, 7)] _ ph1594 := zFr_st u1593 (Or.inr (by simp))
        have h7 : zc ph1594 F 7 = some (.int (zI false)) := u1593.1
        rw [hQ, zi1]
        exact zTk1 (show zFr [F + 1, F + 2, F + 3] [(F, 1), (F, 3), (F, 5), (F, 6), (F, 7)] ph ph1594 from (zFr_trans (zFr_mono fe (by simp) (by simp)) (zFr_st u1593 (Or.inr (by simp))))) (zstep_l h8) (zFs_mk ⟨zFp_F f2 (by simp) (by simp) (zFp_F fe (by simp) (by simp) hp), zFc_F f2 (by simp) (by simp) (zFc_c (c := 1000 + zlt c) hC g1_fe (by rw [zcc_n (by omega)]; exact g2_fe) g3_fe (Or.inl (by omega))), zFw_F f2 (by simp) (by simp) (zFw_F fe (by simp) (by simp) hW), zFb_F f2 (by simp) (by simp) (zFb_F fe (by simp) (by simp) hb), ⟨((u1593.2.1 F 5 (fun q => absurd q.2 (by decide))).trans ((fe.1 F 5 (by simp <;> omega) (by simp <;> omega)).trans hd.1)), hd.2.1, ((u1593.2.1 F 6 (fun q => absurd q.2 (by decide))).trans ((fe.1 F 6 (by simp <;> omega) (by simp <;> omega)).trans hd.2.2.1)), by decide, h7⟩⟩)
      · have tm1 : (Int32.ofInt (-1)).toInt = -1 := by decide
        show zW n D 6 Q 72 [some (.ref F), some (.int (zn c)), none] [.int (Int32.ofInt (-1))] ph
        refine w_store (pc' := 73) (L' := [some (.ref F), some (.int (zn c)), some (.int (Int32.ofInt (-1)))]) (st' := []) (m := 1) (ykc_6 (e := (3, .istore_n kF2, 0)) rfl) rfl rfl ?_
        refine w_load (pc' := 74) (v := .int (Int32.ofInt (-1))) (m := 1) (ykc_6 (e := (2, .iload_n kF2, 0)) rfl) rfl rfl ?_
        refine w_zge (ykc_6 (e := (4, .ifCond .ge 5, 79)) rfl) rfl (fun q => by exfalso; omega) (fun b1595 => ?_)
        refine w_alu (pc' := 78) (st' := [.int (Int32.ofInt 0)]) (ykc_6 (e := (0, .iconst 0, 0)) rfl) rfl rfl ?_
        refine w_ret (v := (some (.int (Int32.ofInt 0)))) (ykc_6 (e := (7, .ireturn, 0)) rfl) zr_z ?_
        rw [hQ, zi0]
        exact ⟨zFr_refl, ⟨cm, hb⟩, Or.inr ⟨zstep_n (by omega) hnd h8 (by omega), rfl⟩⟩
      
    · refine w_load (pc' := 21) (v := .ref F) (m := 1) (ykc_6 (e := (2, .aload_n kF0, 0)) rfl) rfl rfl ?_
      refine w_gf (pc' := 24) (v := .int (zn dp)) (ykc_6 (e := (5, .getfield 47, 0)) rfl) rfl hd.1 rfl ?_
      refine w_zlt (ykc_6 (e := (4, .ifCond .lt 11, 35)) rfl) rfl (fun q => by exfalso; omega) (fun b1596 => ?_)
      refine w_load (pc' := 28) (v := .ref F) (m := 1) (ykc_6 (e := (2, .aload_n kF0, 0)) rfl) rfl rfl ?_
      refine w_gf (pc' := 31) (v := .int (zn dp)) (ykc_6 (e := (5, .getfield 47, 0)) rfl) rfl hd.1 rfl ?_
      refine w_alu (pc' := 32) (st' := [.int (Int32.ofInt 4), .int (zn dp)]) (ykc_6 (e := (0, .iconst 4, 0)) rfl) rfl rfl ?_
      refine w_ilt (ykc_6 (e := (4, .if_icmp .lt 5, 37)) rfl) rfl (fun b1597 => ?_) (fun b1597 => ?_)
      · refine w_load (pc' := 38) (v := .ref F) (m := 1) (ykc_6 (e := (2, .aload_n kF0, 0)) rfl) rfl rfl ?_
        refine w_alu (pc' := 39) (st' := [.ref F, .ref F]) (ykc_6 (e := (0, .dup, 0)) rfl) rfl rfl ?_
        refine w_gf (pc' := 42) (v := .int (zn dp)) (ykc_6 (e := (5, .getfield 47, 0)) rfl) rfl hd.1 rfl ?_
        refine w_alu (pc' := 43) (st' := [.int (Int32.ofInt 1), .int (zn dp), .ref F]) (ykc_6 (e := (0, .iconst 1, 0)) rfl) rfl rfl ?_
        have e1598 : (zn dp) + (Int32.ofInt 1) = zn (dp + 1) := (zaddN (a := dp) (b := 1) (znt (by omega)) c_5 (by omega)) 
        have te1598 := znt (k := dp + 1) (by omega)
        refine w_alu (pc' := 44) (st' := [.int (zn (dp + 1)), .ref F]) (ykc_6 (e := (0, .iadd, 0)) rfl) (by rw [← e1598]; rfl) rfl ?_
        refine w_pf (pc' := 47) (ykc_6 (e := (5, .putfield 47, 0)) rfl) rfl rfl (fun ph1600 u1599 => ?_)
        refine w_load (pc' := 48) (v := .ref F) (m := 1) (ykc_6 (e := (2, .aload_n kF0, 0)) rfl) rfl rfl ?_
        refine w_gf (pc' := 51) (v := .ref (F + 3)) (ykc_6 (e := (5, .getfield 16, 0)) rfl) rfl ((u1599.2.1 F 4 (fun q => absurd q.2 (by decide))).trans hp.2.2) rfl ?_
        refine w_load (pc' := 52) (v := .ref F) (m := 1) (ykc_6 (e := (2, .aload_n kF0, 0)) rfl) rfl rfl ?_
        refine w_gf (pc' := 55) (v := .int (zn (dp + 1))) (ykc_6 (e := (5, .getfield 47, 0)) rfl) rfl u1599.1 rfl ?_
        refine w_alu (pc' := 56) (st' := [.int (Int32.ofInt 0), .int (zn (dp + 1)), .ref (F + 3)]) (ykc_6 (e := (0, .iconst 0, 0)) rfl) rfl rfl ?_
        refine w_bas (pc' := 57) (k := dp + 1) (ykc_6 (e := (5, .bastore, 0)) rfl) (by omega) rfl (fun ph1602 u1601 => ?_)
        refine w_load (pc' := 58) (v := .ref F) (m := 1) (ykc_6 (e := (2, .aload_n kF0, 0)) rfl) rfl rfl ?_
        refine w_push (pc' := 60) (v := .int ((Int8.ofInt 40).toInt32)) (m := 2) (ykc_6 (e := (1, .bipush 40, 0)) rfl) rfl rfl ?_
        refine w_cv (as := [.ref F, .int ((Int8.ofInt 40).toInt32)]) (r := []) (ykc_6 (e := (6, .invokevirtual 82, 0)) rfl) rfl rfl rfl rfl (zc_holdF ((u1601.2.1 F 2 (fun q => by have q2 := q.1; omega)).trans ((u1599.2.1 F 2 (fun q => absurd q.2 (by decide))).trans hp.2.1)) ((u1601.2.1 F 3 (fun q => by have q2 := q.1; omega)).trans ((u1599.2.1 F 3 (fun q => absurd q.2 (by decide))).trans hW.1)) (by omega)) (fun v1603 ph1604 hv => ?_)
        obtain ⟨rfl, fh, g1_fh, g2_fh, g3_fh⟩ := hv
        show zW n D 6 Q 63 [some (.ref F), some (.int (zn c)), none] [] ph1604
        refine w_alu (pc' := 64) (st' := [.int (Int32.ofInt 1)]) (ykc_6 (e := (0, .iconst 1, 0)) rfl) rfl rfl ?_
        refine w_ret (v := (some (.int (Int32.ofInt 1)))) (ykc_6 (e := (7, .ireturn, 0)) rfl) zr_z ?_
        have ec : c = 40 := by omega
        subst ec
        have f1 : zFr [F + 3] [(F, 5)] ph _ := zFr_trans (zFr_st u1599 (Or.inr (by simp))) (zFr_st u1601 (Or.inl (by simp)))
        have hbb : zFb ph1604 F (zub cm (dp + 1) false) := fun i hi => by
          refine (fh.1 (F + 3) i (by simp) (by simp)).trans ?_
          by_cases e : i = dp + 1
          · subst e; rw [zub_e]; exact u1601.1
          · rw [zub_n e]; exact (u1601.2.1 (F + 3) i (fun q => e q.2)).trans ((u1599.2.1 (F + 3) i (fun q => by have q1 := q.1; omega)).trans (hb i hi))
        rw [hQ, zi1]
        exact zTk1 (show zFr [F + 1, F + 2, F + 3] [(F, 1), (F, 3), (F, 5), (F, 6), (F, 7)] ph ph1604 from (zFr_trans (zFr_trans (zFr_st u1599 (Or.inr (by simp))) (zFr_st u1601 (Or.inl (by simp)))) (zFr_mono fh (by simp) (by simp)))) (zstep_b (by omega)) (zFs_mk ⟨zFp_F fh (by simp) (by simp) (zFp_F f1 (by simp) (by simp) hp), zFc_F fh (by simp) (by simp) (zFc_F f1 (by simp) (by simp) hC), zFw_c (o := 0) (zFw_F f1 (by simp) (by simp) hW) g1_fh (by rw [show zn (zwo 0) = (Int8.ofInt 40).toInt32 by decide]; exact g2_fh) g3_fh (Or.inl rfl), hbb, ⟨((fh.1 F 5 (by simp <;> omega) (by simp <;> omega)).trans ((u1601.2.1 F 5 (fun q => by have q2 := q.1; omega)).trans u1599.1)), by omega, ((fh.1 F 6 (by simp <;> omega) (by simp <;> omega)).trans ((u1601.2.1 F 6 (fun q => by have q2 := q.1; omega)).trans ((u1599.2.1 F 6 (fun q => absurd q.2 (by decide))).trans hd.2.2.1))), by decide, ((fh.1 F 7 (by simp <;> omega) (by simp <;> omega)).trans ((u1601.2.1 F 7 (fun q => by have q2 := q.1; omega)).trans ((u1599.2.1 F 7 (fun q => absurd q.2 (by decide))).trans hd.2.2.2.2)))⟩⟩)
      · refine w_alu (pc' := 36) (st' := [.int (Int32.ofInt 0)]) (ykc_6 (e := (0, .iconst 0, 0)) rfl) rfl rfl ?_
        refine w_ret (v := (some (.int (Int32.ofInt 0)))) (ykc_6 (e := (7, .ireturn, 0)) rfl) zr_z ?_
        have ec : c = 40 := by omega
        subst ec
        rw [hQ, zi0]
        exact ⟨zFr_refl, ⟨cm, hb⟩, Or.inr ⟨zstep_n (by decide) rfl (by decide) (by omega), rfl⟩⟩
  · refine w_load (pc' := 7) (v := .ref F) (m := 1) (ykc_6 (e := (2, .aload_n kF0, 0)) rfl) rfl rfl ?_
    refine w_push (pc' := 9) (v := .int ((Int8.ofInt 109).toInt32)) (m := 2) (ykc_6 (e := (1, .bipush 109, 0)) rfl) rfl rfl ?_
    refine w_cv (as := [.ref F, .int ((Int8.ofInt 109).toInt32)]) (r := []) (ykc_6 (e := (6, .invokevirtual 82, 0)) rfl) rfl rfl rfl rfl (zc_holdF hp.2.1 hW.1 (by omega)) (fun v1605 ph1606 hv => ?_)
    obtain ⟨rfl, fh, g1_fh, g2_fh, g3_fh⟩ := hv
    show zW n D 6 Q 12 [some (.ref F), some (.int (zn c)), none] [] ph1606
    refine w_alu (pc' := 13) (st' := [.int (Int32.ofInt 1)]) (ykc_6 (e := (0, .iconst 1, 0)) rfl) rfl rfl ?_
    refine w_ret (v := (some (.int (Int32.ofInt 1)))) (ykc_6 (e := (7, .ireturn, 0)) rfl) zr_z ?_
    have ec : c = 45 := by omega
    subst ec
    have tr : zc ph1606 F 7 = some (.int (zI true)) := ((fh.1 F 7 (by simp <;> omega) (by simp <;> omega)).trans hd.2.2.2.2)
    rw [hQ, zi1]
    exact zTk1 (show zFr [F + 1, F + 2, F + 3] [(F, 1), (F, 3), (F, 5), (F, 6), (F, 7)] ph ph1606 from (zFr_mono fh (by simp) (by simp))) (zstep_m) (zFs_mk ⟨zFp_F fh (by simp) (by simp) hp, zFc_F fh (by simp) (by simp) hC, zFw_c (o := 3000) hW g1_fh (by rw [show zn (zwo 3000) = (Int8.ofInt 109).toInt32 by decide]; exact g2_fh) g3_fh (Or.inr (Or.inr rfl)), zFb_F fh (by simp) (by simp) hb, ⟨((fh.1 F 5 (by simp <;> omega) (by simp <;> omega)).trans hd.1), hd.2.1, ((fh.1 F 6 (by simp <;> omega) (by simp <;> omega)).trans hd.2.2.1), by decide, tr⟩⟩)
theorem zc_close {ph : pm_H} {F : Nat} {C W : List Nat} {cm : Nat → Bool} {dp : Nat} (hF : zFs ph F (C, W, cm, dp, 0, false)) (h40 : C.length + W.length < 40) : zM 8 [.ref F] ph (fun v0 q => zFf F ph q ∧ (∃ cm9, zFb q F cm9) ∧ ((∃ s, zstep 41 (C, W, cm, dp, 0, false) = some s ∧ v0 = some (.int (zI true)) ∧ zFs q F s) ∨ (zstep 41 (C, W, cm, dp, 0, false) = none ∧ v0 = some (.int (zI false))))) := by
  obtain ⟨Q, hQ⟩ : ∃ Q : Option Value → pm_H → Prop, Q = (fun v0 q => zFf F ph q ∧ (∃ cm9, zFb q F cm9) ∧ ((∃ s, zstep 41 (C, W, cm, dp, 0, false) = some s ∧ v0 = some (.int (zI true)) ∧ zFs q F s) ∨ (zstep 41 (C, W, cm, dp, 0, false) = none ∧ v0 = some (.int (zI false))))) := ⟨_, rfl⟩
  rw [← hQ]
  refine zM_mk fun n D => ?_
  show zW n D 8 Q 0 [some (.ref F)] [] ph
  have c_0 : (Int32.ofInt 0).toInt = 0 := by decide
  have c_1 : (Int32.ofInt 1).toInt = 1 := by decide
  obtain ⟨hp, hC, hW, hb, hd⟩ := hF
  have hp : zFp ph F := hp
  have hC : zFc ph F C := hC
  have hW : zFw ph F W := hW
  have hb : zFb ph F cm := hb
  have hd : zFd ph F dp 0 false := hd
  have tdp := znt (k := dp) (by have := hd.2.1; omega)
  have tdg := znt (k := 0) (by have := hd.2.2.2.1; omega)
  have hdp4 := hd.2.1
  have hdg3 := hd.2.2.2.1
  have tCl := znt (k := C.length) (by omega)
  have tWl := znt (k := W.length) (by omega)
  have hlen := @zrl_len 1 W C
  refine w_load (pc' := 1) (v := .ref F) (m := 1) (ykc_8 (e := (2, .aload_n kF0, 0)) rfl) rfl rfl ?_
  refine w_gf (pc' := 4) (v := .int (zn dp)) (ykc_8 (e := (5, .getfield 47, 0)) rfl) rfl hd.1 rfl ?_
  refine w_zne (ykc_8 (e := (4, .ifCond .ne 5, 9)) rfl) rfl (fun b1607 => ?_) (fun b1607 => ?_)
  · refine w_load (pc' := 10) (v := .ref F) (m := 1) (ykc_8 (e := (2, .aload_n kF0, 0)) rfl) rfl rfl ?_
    refine w_alu (pc' := 11) (st' := [.ref F, .ref F]) (ykc_8 (e := (0, .dup, 0)) rfl) rfl rfl ?_
    refine w_gf (pc' := 14) (v := .int (zn dp)) (ykc_8 (e := (5, .getfield 47, 0)) rfl) rfl hd.1 rfl ?_
    refine w_alu (pc' := 15) (st' := [.int (Int32.ofInt 1), .int (zn dp), .ref F]) (ykc_8 (e := (0, .iconst 1, 0)) rfl) rfl rfl ?_
    have e1608 : (zn dp) - (Int32.ofInt 1) = zn (dp - 1) := zsubN (a := dp) (b := 1) tdp c_1 (by omega)
    have te1608 := znt (k := dp - 1) (by omega)
    refine w_alu (pc' := 16) (st' := [.int (zn (dp - 1)), .ref F]) (ykc_8 (e := (0, .isub, 0)) rfl) (by show some ([.int ((zn dp) - (Int32.ofInt 1)), .ref F] : List Value) = _; rw [e1608]) rfl ?_
    refine w_pf (pc' := 19) (ykc_8 (e := (5, .putfield 47, 0)) rfl) rfl rfl (fun ph1610 u1609 => ?_)
    refine w_load (pc' := 20) (v := .ref F) (m := 1) (ykc_8 (e := (2, .aload_n kF0, 0)) rfl) rfl rfl ?_
    refine w_alu (pc' := 21) (st' := [.int (Int32.ofInt 1), .ref F]) (ykc_8 (e := (0, .iconst 1, 0)) rfl) rfl rfl ?_
    have f1 : zFr [] [(F, 5)] ph ph1610 := zFr_st u1609 (Or.inr (by simp))
    refine w_cv (as := [.ref F, .int (Int32.ofInt 1)]) (r := []) (ykc_8 (e := (6, .invokevirtual 51, 0)) rfl) rfl rfl rfl rfl (zc_release (b := 1) (zFp_F f1 (by simp) (by simp) hp) (zFc_F f1 (by simp) (by simp) hC) (zFw_F f1 (by simp) (by simp) hW) (by omega) (by decide) (by omega)) (fun v1611 ph1612 hv => ?_)
    obtain ⟨rfl, fr, hC2, hW2⟩ := hv
    generalize hzr : zrl 1 W C = zr at *
    obtain ⟨W2, C2⟩ := zr
    have hC2 : zFc ph1612 F C2 := hC2
    have hW2 : zFw ph1612 F W2 := hW2
    have hlen : W2.length + C2.length = W.length + C.length := hlen
    show zW n D 8 Q 24 [some (.ref F)] [] ph1612
    refine w_load (pc' := 25) (v := .ref F) (m := 1) (ykc_8 (e := (2, .aload_n kF0, 0)) rfl) rfl rfl ?_
    have tW2 := znt (k := W2.length) (by omega)
    refine w_gf (pc' := 28) (v := .int (zn W2.length)) (ykc_8 (e := (5, .getfield 57, 0)) rfl) rfl hW2.1 rfl ?_
    refine w_zle (ykc_8 (e := (4, .ifCond .le 13, 41)) rfl) rfl (fun b1613 => ?_) (fun b1613 => ?_)
    · refine w_alu (pc' := 42) (st' := [.int (Int32.ofInt 1)]) (ykc_8 (e := (0, .iconst 1, 0)) rfl) rfl rfl ?_
      refine w_ret (v := (some (.int (Int32.ofInt 1)))) (ykc_8 (e := (7, .ireturn, 0)) rfl) zr_z ?_
      have hst := zstep_c (C := C) (W := W) (cm := cm) (dp := dp) (dg := 0) (by omega)
      rw [hzr] at hst
      cases W2 with
      | cons o W3 => exact absurd (show (o :: W3).length = 0 by omega) (by simp)
      | nil =>
        have hst : zstep 41 (C, W, cm, dp, 0, false) = some (C2, [], cm, dp - 1, 0, false) := hst
        rw [hQ, zi1]
        exact zTk1 (show zFr [F + 1, F + 2, F + 3] [(F, 1), (F, 3), (F, 5), (F, 6), (F, 7)] ph ph1612 from (zFr_trans (zFr_st u1609 (Or.inr (by simp))) (zFr_mono fr (by simp) (by simp)))) (hst) (zFs_mk ⟨zFp_F fr (by simp) (by simp) (zFp_F f1 (by simp) (by simp) hp), hC2, hW2, zFb_F fr (by simp) (by simp) (zFb_F f1 (by simp) (by simp) hb), ⟨((fr.1 F 5 (by simp <;> omega) (by simp <;> omega)).trans u1609.1), by omega, ((fr.1 F 6 (by simp <;> omega) (by simp <;> omega)).trans ((u1609.2.1 F 6 (fun q => absurd q.2 (by decide))).trans hd.2.2.1)), by decide, ((fr.1 F 7 (by simp <;> omega) (by simp <;> omega)).trans ((u1609.2.1 F 7 (fun q => absurd q.2 (by decide))).trans hd.2.2.2.2))⟩⟩)
    · refine w_load (pc' := 32) (v := .ref F) (m := 1) (ykc_8 (e := (2, .aload_n kF0, 0)) rfl) rfl rfl ?_
      refine w_alu (pc' := 33) (st' := [.ref F, .ref F]) (ykc_8 (e := (0, .dup, 0)) rfl) rfl rfl ?_
      refine w_gf (pc' := 36) (v := .int (zn W2.length)) (ykc_8 (e := (5, .getfield 57, 0)) rfl) rfl hW2.1 rfl ?_
      refine w_alu (pc' := 37) (st' := [.int (Int32.ofInt 1), .int (zn W2.length), .ref F]) (ykc_8 (e := (0, .iconst 1, 0)) rfl) rfl rfl ?_
      have e1614 : (zn W2.length) - (Int32.ofInt 1) = zn (W2.length - 1) := zsubN (a := W2.length) (b := 1) (znt (by omega)) c_1 (by omega)
      have te1614 := znt (k := W2.length - 1) (by omega)
      refine w_alu (pc' := 38) (st' := [.int (zn (W2.length - 1)), .ref F]) (ykc_8 (e := (0, .isub, 0)) rfl) (by show some ([.int ((zn W2.length) - (Int32.ofInt 1)), .ref F] : List Value) = _; rw [e1614]) rfl ?_
      refine w_pf (pc' := 41) (ykc_8 (e := (5, .putfield 57, 0)) rfl) rfl rfl (fun ph1616 u1615 => ?_)
      refine w_alu (pc' := 42) (st' := [.int (Int32.ofInt 1)]) (ykc_8 (e := (0, .iconst 1, 0)) rfl) rfl rfl ?_
      refine w_ret (v := (some (.int (Int32.ofInt 1)))) (ykc_8 (e := (7, .ireturn, 0)) rfl) zr_z ?_
      have f3 : zFr [] [(F, 3)] _ ph1616 := zFr_st u1615 (Or.inr (by simp))
      have hst := zstep_c (C := C) (W := W) (cm := cm) (dp := dp) (dg := 0) (by omega)
      rw [hzr] at hst
      cases W2 with
      | nil => exact absurd (show (0 : Nat) < 0 by have h : (zn ([] : List Nat).length).toInt = 0 := rfl; omega) (by decide)
      | cons o W3 =>
        have hst : zstep 41 (C, W, cm, dp, 0, false) = some (C2, W3, cm, dp - 1, 0, false) := hst
        rw [hQ, zi1]
        exact zTk1 (show zFr [F + 1, F + 2, F + 3] [(F, 1), (F, 3), (F, 5), (F, 6), (F, 7)] ph ph1616 from (zFr_trans (zFr_trans (zFr_st u1609 (Or.inr (by simp))) (zFr_mono fr (by simp) (by simp))) (zFr_st u1615 (Or.inr (by simp))))) (hst) (zFs_mk ⟨zFp_F f3 (by simp) (by simp) (zFp_F fr (by simp) (by simp) (zFp_F f1 (by simp) (by simp) hp)), zFc_F f3 (by simp) (by simp) hC2, zFw_t hW2 u1615.1 (fun i => u1615.2.1 (F + 2) i (fun q => by have q1 := q.1; omega)), zFb_F f3 (by simp) (by simp) (zFb_F fr (by simp) (by simp) (zFb_F f1 (by simp) (by simp) hb)), ⟨((u1615.2.1 F 5 (fun q => absurd q.2 (by decide))).trans ((fr.1 F 5 (by simp <;> omega) (by simp <;> omega)).trans u1609.1)), by omega, ((u1615.2.1 F 6 (fun q => absurd q.2 (by decide))).trans ((fr.1 F 6 (by simp <;> omega) (by simp <;> omega)).trans ((u1609.2.1 F 6 (fun q => absurd q.2 (by decide))).trans hd.2.2.1))), by decide, ((u1615.2.1 F 7 (fun q => absurd q.2 (by decide))).trans ((fr.1 F 7 (by simp <;> omega) (by simp <;> omega)).trans ((u1609.2.1 F 7 (fun q => absurd q.2 (by decide))).trans hd.2.2.2.2)))⟩⟩)
  · refine w_alu (pc' := 8) (st' := [.int (Int32.ofInt 0)]) (ykc_8 (e := (0, .iconst 0, 0)) rfl) rfl rfl ?_
    refine w_ret (v := (some (.int (Int32.ofInt 0)))) (ykc_8 (e := (7, .ireturn, 0)) rfl) zr_z ?_
    have e0 : dp = 0 := by omega
    subst e0
    rw [hQ, zi0]
    exact ⟨zFr_refl, ⟨cm, hb⟩, Or.inr ⟨by unfold zstep; simp [zdi], rfl⟩⟩
theorem zc_takeO {ph : pm_H} {F : Nat} {C W : List Nat} {cm : Nat → Bool} {dp : Nat} (hF : zFs ph F (C, W, cm, dp, 0, false)) (h40 : C.length + W.length < 40) {c : Nat} (hc : c < 256) (hnd : zdi c = false) : zM 7 [.ref F, .int (zn c)] ph (fun v0 q => zFf F ph q ∧ (∃ cm9, zFb q F cm9) ∧ ((∃ s, zstep c (C, W, cm, dp, 0, false) = some s ∧ v0 = some (.int (zI true)) ∧ zFs q F s) ∨ (zstep c (C, W, cm, dp, 0, false) = none ∧ v0 = some (.int (zI false))))) := by
  obtain ⟨Q, hQ⟩ : ∃ Q : Option Value → pm_H → Prop, Q = (fun v0 q => zFf F ph q ∧ (∃ cm9, zFb q F cm9) ∧ ((∃ s, zstep c (C, W, cm, dp, 0, false) = some s ∧ v0 = some (.int (zI true)) ∧ zFs q F s) ∨ (zstep c (C, W, cm, dp, 0, false) = none ∧ v0 = some (.int (zI false))))) := ⟨_, rfl⟩
  rw [← hQ]
  refine zM_mk fun n D => ?_
  show zW n D 7 Q 0 [some (.ref F), some (.int (zn c)), none] [] ph
  have c_0 : ((Int8.ofInt 41).toInt32).toInt = 41 := by decide
  have c_1 : (Int32.ofInt 0).toInt = 0 := by decide
  have c_2 : (Int32.ofInt 1).toInt = 1 := by decide
  have c_3 : (Int32.ofInt 3).toInt = 3 := by decide
  have c_4 : (Int32.ofInt 4).toInt = 4 := by decide
  have hF0 := hF
  obtain ⟨hp, hC, hW, hb, hd⟩ := hF
  have hp : zFp ph F := hp
  have hC : zFc ph F C := hC
  have hW : zFw ph F W := hW
  have hb : zFb ph F cm := hb
  have hd : zFd ph F dp 0 false := hd
  have tdp := znt (k := dp) (by have := hd.2.1; omega)
  have tdg := znt (k := 0) (by have := hd.2.2.2.1; omega)
  have hdp4 := hd.2.1
  have hdg3 := hd.2.2.2.1
  have tCl := znt (k := C.length) (by omega)
  have tWl := znt (k := W.length) (by omega)
  have tc := znt (k := c) (by omega)
  refine w_load (pc' := 1) (v := .int (zn c)) (m := 1) (ykc_7 (e := (2, .iload_n kF1, 0)) rfl) rfl rfl ?_
  refine w_push (pc' := 3) (v := .int ((Int8.ofInt 41).toInt32)) (m := 2) (ykc_7 (e := (1, .bipush 41, 0)) rfl) rfl rfl ?_
  refine w_ine (ykc_7 (e := (4, .if_icmp .ne 8, 11)) rfl) rfl (fun b1617 => ?_) (fun b1617 => ?_)
  · refine w_load (pc' := 12) (v := .int (zn c)) (m := 1) (ykc_7 (e := (2, .iload_n kF1, 0)) rfl) rfl rfl ?_
    refine w_cs (as := [.int (zn c)]) (r := []) (ykc_7 (e := (6, .invokestatic 89, 0)) rfl) rfl rfl rfl rfl (zc_bind (c := c) (by omega)) (fun v1618 ph1619 hv => ?_)
    obtain ⟨rfl, rfl⟩ := hv
    have tb9 := znt (k := zbs c) (by have := @zbs_4 c; omega)
    have hb9 := @zbs_4 c
    show zW n D 7 Q 15 [some (.ref F), some (.int (zn c)), none] [.int (zn (zbs c))] ph
    have hop : zbs c ≠ 0 → zbs c ≤ 3 → zop c ≠ 0 ∧ zbd (zop c) = zbs c := fun h1 h2 => by
      unfold zbs at h1 h2 ⊢
      by_cases e : c = 109
      · rw [if_pos e] at h2; omega
      · rw [if_neg e] at h1 ⊢
        by_cases e2 : zop c = 0
        · rw [if_pos e2] at h1; omega
        · rw [if_neg e2]; exact ⟨e2, rfl⟩
    have hno : zbs c = 0 ∨ 3 < zbs c → zop c = 0 := fun h => by
      apply Classical.byContradiction
      intro q
      have h3 := zbd_op q
      unfold zbs at h
      by_cases e : c = 109
      · subst e; exact q rfl
      · rw [if_neg e, if_neg q] at h; omega
    refine w_store (pc' := 16) (L' := [some (.ref F), some (.int (zn c)), some (.int (zn (zbs c)))]) (st' := []) (m := 1) (ykc_7 (e := (3, .istore_n kF2, 0)) rfl) rfl rfl ?_
    refine w_load (pc' := 17) (v := .int (zn (zbs c))) (m := 1) (ykc_7 (e := (2, .iload_n kF2, 0)) rfl) rfl rfl ?_
    refine w_zeq (ykc_7 (e := (4, .ifCond .eq 23, 40)) rfl) rfl (fun b1620 => ?_) (fun b1620 => ?_)
    · refine w_alu (pc' := 41) (st' := [.int (Int32.ofInt 0)]) (ykc_7 (e := (0, .iconst 0, 0)) rfl) rfl rfl ?_
      refine w_ret (v := (some (.int (Int32.ofInt 0)))) (ykc_7 (e := (7, .ireturn, 0)) rfl) zr_z ?_
      rw [hQ, zi0]
      exact ⟨zFr_refl, ⟨cm, hb⟩, Or.inr ⟨zstep_x (fun q => absurd q (by rw [hnd]; decide)) (fun q => absurd q (by omega)) (fun q => absurd (hno (by omega)) q), rfl⟩⟩
    · refine w_load (pc' := 21) (v := .int (zn (zbs c))) (m := 1) (ykc_7 (e := (2, .iload_n kF2, 0)) rfl) rfl rfl ?_
      refine w_alu (pc' := 22) (st' := [.int (Int32.ofInt 3), .int (zn (zbs c))]) (ykc_7 (e := (0, .iconst 3, 0)) rfl) rfl rfl ?_
      refine w_igt (ykc_7 (e := (4, .if_icmp .gt 18, 40)) rfl) rfl (fun b1621 => ?_) (fun b1621 => ?_)
      · refine w_alu (pc' := 41) (st' := [.int (Int32.ofInt 0)]) (ykc_7 (e := (0, .iconst 0, 0)) rfl) rfl rfl ?_
        refine w_ret (v := (some (.int (Int32.ofInt 0)))) (ykc_7 (e := (7, .ireturn, 0)) rfl) zr_z ?_
        rw [hQ, zi0]
        exact ⟨zFr_refl, ⟨cm, hb⟩, Or.inr ⟨zstep_x (fun q => absurd q (by rw [hnd]; decide)) (fun q => absurd q (by omega)) (fun q => absurd (hno (by omega)) q), rfl⟩⟩
      · refine w_load (pc' := 26) (v := .ref F) (m := 1) (ykc_7 (e := (2, .aload_n kF0, 0)) rfl) rfl rfl ?_
        refine w_gf (pc' := 29) (v := .int (zn dp)) (ykc_7 (e := (5, .getfield 47, 0)) rfl) rfl hd.1 rfl ?_
        refine w_zlt (ykc_7 (e := (4, .ifCond .lt 11, 40)) rfl) rfl (fun q => by exfalso; omega) (fun b1622 => ?_)
        refine w_load (pc' := 33) (v := .ref F) (m := 1) (ykc_7 (e := (2, .aload_n kF0, 0)) rfl) rfl rfl ?_
        refine w_gf (pc' := 36) (v := .int (zn dp)) (ykc_7 (e := (5, .getfield 47, 0)) rfl) rfl hd.1 rfl ?_
        refine w_alu (pc' := 37) (st' := [.int (Int32.ofInt 4), .int (zn dp)]) (ykc_7 (e := (0, .iconst 4, 0)) rfl) rfl rfl ?_
        refine w_ile (ykc_7 (e := (4, .if_icmp .le 5, 42)) rfl) rfl (fun b1623 => ?_) (fun q => by exfalso; omega)
        refine w_load (pc' := 43) (v := .int (zn (zbs c))) (m := 1) (ykc_7 (e := (2, .iload_n kF2, 0)) rfl) rfl rfl ?_
        refine w_alu (pc' := 44) (st' := [.int (Int32.ofInt 1), .int (zn (zbs c))]) (ykc_7 (e := (0, .iconst 1, 0)) rfl) rfl rfl ?_
        refine w_ine (ykc_7 (e := (4, .if_icmp .ne 27, 71)) rfl) rfl (fun b1624 => ?_) (fun b1624 => ?_)
        · refine w_load (pc' := 72) (v := .ref F) (m := 1) (ykc_7 (e := (2, .aload_n kF0, 0)) rfl) rfl rfl ?_
          refine w_load (pc' := 73) (v := .int (zn (zbs c))) (m := 1) (ykc_7 (e := (2, .iload_n kF2, 0)) rfl) rfl rfl ?_
          obtain ⟨ho1, ho2⟩ := hop (by omega) (by omega)
          refine w_cv (as := [.ref F, .int (zn (zbs c))]) (r := []) (ykc_7 (e := (6, .invokevirtual 51, 0)) rfl) rfl rfl rfl rfl (zc_release (b := zbs c) hp hC hW (by omega) (by omega) (by omega)) (fun v1625 ph1626 hv => ?_)
          obtain ⟨rfl, fr, hC2, hW2⟩ := hv
          have hlen := @zrl_len (zbs c) W C
          show zW n D 7 Q 76 [some (.ref F), some (.int (zn c)), some (.int (zn (zbs c)))] [] ph1626
          refine w_load (pc' := 77) (v := .ref F) (m := 1) (ykc_7 (e := (2, .aload_n kF0, 0)) rfl) rfl rfl ?_
          refine w_load (pc' := 78) (v := .int (zn c)) (m := 1) (ykc_7 (e := (2, .iload_n kF1, 0)) rfl) rfl rfl ?_
          refine w_cv (as := [.ref F, .int (zn c)]) (r := []) (ykc_7 (e := (6, .invokevirtual 82, 0)) rfl) rfl rfl rfl rfl (zc_holdF ((fr.1 F 2 (by simp <;> omega) (by simp <;> omega)).trans hp.2.1) hW2.1 (by omega)) (fun v1627 ph1628 hv => ?_)
          obtain ⟨rfl, fh, g1_fh, g2_fh, g3_fh⟩ := hv
          show zW n D 7 Q 81 [some (.ref F), some (.int (zn c)), some (.int (zn (zbs c)))] [] ph1628
          refine w_load (pc' := 82) (v := .ref F) (m := 1) (ykc_7 (e := (2, .aload_n kF0, 0)) rfl) rfl rfl ?_
          refine w_alu (pc' := 83) (st' := [.int (Int32.ofInt 1), .ref F]) (ykc_7 (e := (0, .iconst 1, 0)) rfl) rfl rfl ?_
          refine w_pf (pc' := 86) (ykc_7 (e := (5, .putfield 43, 0)) rfl) rfl rfl (fun ph1630 u1629 => ?_)
          refine w_alu (pc' := 87) (st' := [.int (Int32.ofInt 1)]) (ykc_7 (e := (0, .iconst 1, 0)) rfl) rfl rfl ?_
          refine w_ret (v := (some (.int (Int32.ofInt 1)))) (ykc_7 (e := (7, .ireturn, 0)) rfl) zr_z ?_
          have hst := zstep_o (C := C) (W := W) (cm := cm) (dp := dp) (dg := 0) ho1 (fun q => by omega)
          rw [ho2, if_neg (show ¬ zbs c = 1 by omega)] at hst
          have f9 : zFr [] [(F, 7)] _ ph1630 := zFr_st u1629 (Or.inr (by simp))
          obtain ⟨hwo, hvo9⟩ := zwo_op ho1
          have hW3 := zFw_c (o := zop c) hW2 g1_fh (by rw [hwo]; exact g2_fh) g3_fh hvo9
          have h7 : zc ph1630 F 7 = some (.int (zI true)) := u1629.1
          rw [hQ, zi1]
          exact zTk1 (show zFr [F + 1, F + 2, F + 3] [(F, 1), (F, 3), (F, 5), (F, 6), (F, 7)] ph ph1630 from (zFr_trans (zFr_trans (zFr_mono fr (by simp) (by simp)) (zFr_mono fh (by simp) (by simp))) (zFr_st u1629 (Or.inr (by simp))))) (hst) (zFs_mk ⟨zFp_F f9 (by simp) (by simp) (zFp_F fh (by simp) (by simp) (zFp_F fr (by simp) (by simp) hp)), zFc_F f9 (by simp) (by simp) (zFc_F fh (by simp) (by simp) hC2), zFw_F f9 (by simp) (by simp) hW3, zFb_F f9 (by simp) (by simp) (zFb_F fh (by simp) (by simp) (zFb_F fr (by simp) (by simp) hb)), ⟨((u1629.2.1 F 5 (fun q => absurd q.2 (by decide))).trans ((fh.1 F 5 (by simp <;> omega) (by simp <;> omega)).trans ((fr.1 F 5 (by simp <;> omega) (by simp <;> omega)).trans hd.1))), hd.2.1, ((u1629.2.1 F 6 (fun q => absurd q.2 (by decide))).trans ((fh.1 F 6 (by simp <;> omega) (by simp <;> omega)).trans ((fr.1 F 6 (by simp <;> omega) (by simp <;> omega)).trans hd.2.2.1))), by decide, h7⟩⟩)
        · refine w_load (pc' := 48) (v := .ref F) (m := 1) (ykc_7 (e := (2, .aload_n kF0, 0)) rfl) rfl rfl ?_
          refine w_gf (pc' := 51) (v := .ref (F + 3)) (ykc_7 (e := (5, .getfield 16, 0)) rfl) rfl hp.2.2 rfl ?_
          refine w_load (pc' := 52) (v := .ref F) (m := 1) (ykc_7 (e := (2, .aload_n kF0, 0)) rfl) rfl rfl ?_
          refine w_gf (pc' := 55) (v := .int (zn dp)) (ykc_7 (e := (5, .getfield 47, 0)) rfl) rfl hd.1 rfl ?_
          refine w_balk (pc' := 56) (k := dp) (ykc_7 (e := (5, .baload, 0)) rfl) (hb dp (by omega)) (by omega) rfl ?_
          refine w_beq (ykc_7 (e := (4, .ifCond .eq 5, 61)) rfl) rfl (fun b1631 => ?_) (fun b1631 => ?_)
          · refine w_load (pc' := 62) (v := .ref F) (m := 1) (ykc_7 (e := (2, .aload_n kF0, 0)) rfl) rfl rfl ?_
            refine w_gf (pc' := 65) (v := .ref (F + 3)) (ykc_7 (e := (5, .getfield 16, 0)) rfl) rfl hp.2.2 rfl ?_
            refine w_load (pc' := 66) (v := .ref F) (m := 1) (ykc_7 (e := (2, .aload_n kF0, 0)) rfl) rfl rfl ?_
            refine w_gf (pc' := 69) (v := .int (zn dp)) (ykc_7 (e := (5, .getfield 47, 0)) rfl) rfl hd.1 rfl ?_
            refine w_alu (pc' := 70) (st' := [.int (Int32.ofInt 1), .int (zn dp), .ref (F + 3)]) (ykc_7 (e := (0, .iconst 1, 0)) rfl) rfl rfl ?_
            refine w_bas (pc' := 71) (k := dp) (ykc_7 (e := (5, .bastore, 0)) rfl) (by omega) rfl (fun ph1633 u1632 => ?_)
            refine w_load (pc' := 72) (v := .ref F) (m := 1) (ykc_7 (e := (2, .aload_n kF0, 0)) rfl) rfl rfl ?_
            refine w_load (pc' := 73) (v := .int (zn (zbs c))) (m := 1) (ykc_7 (e := (2, .iload_n kF2, 0)) rfl) rfl rfl ?_
            obtain ⟨ho1, ho2⟩ := hop (by omega) (by omega)
            have f1 : zFr [F + 3] [] ph ph1633 := zFr_st u1632 (Or.inl (by simp))
            refine w_cv (as := [.ref F, .int (zn (zbs c))]) (r := []) (ykc_7 (e := (6, .invokevirtual 51, 0)) rfl) rfl rfl rfl rfl (zc_release (b := zbs c) (zFp_F f1 (by simp) (by simp) hp) (zFc_F f1 (by simp) (by simp) hC) (zFw_F f1 (by simp) (by simp) hW) (by omega) (by omega) (by omega)) (fun v1634 ph1635 hv => ?_)
            obtain ⟨rfl, fr, hC2, hW2⟩ := hv
            have hlen := @zrl_len (zbs c) W C
            show zW n D 7 Q 76 [some (.ref F), some (.int (zn c)), some (.int (zn (zbs c)))] [] ph1635
            refine w_load (pc' := 77) (v := .ref F) (m := 1) (ykc_7 (e := (2, .aload_n kF0, 0)) rfl) rfl rfl ?_
            refine w_load (pc' := 78) (v := .int (zn c)) (m := 1) (ykc_7 (e := (2, .iload_n kF1, 0)) rfl) rfl rfl ?_
            refine w_cv (as := [.ref F, .int (zn c)]) (r := []) (ykc_7 (e := (6, .invokevirtual 82, 0)) rfl) rfl rfl rfl rfl (zc_holdF ((fr.1 F 2 (by simp <;> omega) (by simp <;> omega)).trans ((u1632.2.1 F 2 (fun q => by have q2 := q.1; omega)).trans hp.2.1)) hW2.1 (by omega)) (fun v1636 ph1637 hv => ?_)
            obtain ⟨rfl, fh, g1_fh, g2_fh, g3_fh⟩ := hv
            show zW n D 7 Q 81 [some (.ref F), some (.int (zn c)), some (.int (zn (zbs c)))] [] ph1637
            refine w_load (pc' := 82) (v := .ref F) (m := 1) (ykc_7 (e := (2, .aload_n kF0, 0)) rfl) rfl rfl ?_
            refine w_alu (pc' := 83) (st' := [.int (Int32.ofInt 1), .ref F]) (ykc_7 (e := (0, .iconst 1, 0)) rfl) rfl rfl ?_
            refine w_pf (pc' := 86) (ykc_7 (e := (5, .putfield 43, 0)) rfl) rfl rfl (fun ph1639 u1638 => ?_)
            refine w_alu (pc' := 87) (st' := [.int (Int32.ofInt 1)]) (ykc_7 (e := (0, .iconst 1, 0)) rfl) rfl rfl ?_
            refine w_ret (v := (some (.int (Int32.ofInt 1)))) (ykc_7 (e := (7, .ireturn, 0)) rfl) zr_z ?_
            have hcm : cm dp = false := b1631
            have hst := zstep_o (C := C) (W := W) (cm := cm) (dp := dp) (dg := 0) ho1 (fun q => by rw [hcm] at q; exact absurd q.2 (by decide))
            rw [ho2, if_pos (show zbs c = 1 by omega)] at hst
            have hbb : zFb ph1639 F (zub cm dp true) := fun i hi => by
              refine Eq.trans (u1638.2.1 (F + 3) i (fun q => by have q1 := q.1; omega)) ((fh.1 (F + 3) i (by simp) (by simp)).trans ((fr.1 (F + 3) i (by simp) (by simp)).trans ?_))
              by_cases e : i = dp
              · subst e; rw [zub_e]; exact u1632.1
              · rw [zub_n e]; exact (u1632.2.1 (F + 3) i (fun q => e q.2)).trans (hb i hi)
            have f9 : zFr [] [(F, 7)] _ ph1639 := zFr_st u1638 (Or.inr (by simp))
            obtain ⟨hwo, hvo9⟩ := zwo_op ho1
            have hW3 := zFw_c (o := zop c) hW2 g1_fh (by rw [hwo]; exact g2_fh) g3_fh hvo9
            have h7 : zc ph1639 F 7 = some (.int (zI true)) := u1638.1
            rw [hQ, zi1]
            exact zTk1 (show zFr [F + 1, F + 2, F + 3] [(F, 1), (F, 3), (F, 5), (F, 6), (F, 7)] ph ph1639 from (zFr_trans (zFr_trans (zFr_trans (zFr_st u1632 (Or.inl (by simp))) (zFr_mono fr (by simp) (by simp))) (zFr_mono fh (by simp) (by simp))) (zFr_st u1638 (Or.inr (by simp))))) (hst) (zFs_mk ⟨zFp_F f9 (by simp) (by simp) (zFp_F fh (by simp) (by simp) (zFp_F fr (by simp) (by simp) (zFp_F f1 (by simp) (by simp) hp))), zFc_F f9 (by simp) (by simp) (zFc_F fh (by simp) (by simp) hC2), zFw_F f9 (by simp) (by simp) hW3, hbb, ⟨((u1638.2.1 F 5 (fun q => absurd q.2 (by decide))).trans ((fh.1 F 5 (by simp <;> omega) (by simp <;> omega)).trans ((fr.1 F 5 (by simp <;> omega) (by simp <;> omega)).trans ((u1632.2.1 F 5 (fun q => by have q2 := q.1; omega)).trans hd.1)))), hd.2.1, ((u1638.2.1 F 6 (fun q => absurd q.2 (by decide))).trans ((fh.1 F 6 (by simp <;> omega) (by simp <;> omega)).trans ((fr.1 F 6 (by simp <;> omega) (by simp <;> omega)).trans ((u1632.2.1 F 6 (fun q => by have q2 := q.1; omega)).trans hd.2.2.1)))), by decide, h7⟩⟩)
          · refine w_alu (pc' := 60) (st' := [.int (Int32.ofInt 0)]) (ykc_7 (e := (0, .iconst 0, 0)) rfl) rfl rfl ?_
            refine w_ret (v := (some (.int (Int32.ofInt 0)))) (ykc_7 (e := (7, .ireturn, 0)) rfl) zr_z ?_
            obtain ⟨ho1, ho2⟩ := hop (by omega) (by omega)
            rw [hQ, zi0]
            exact ⟨zFr_refl, ⟨cm, hb⟩, Or.inr ⟨zstep_x (fun q => absurd q (by rw [hnd]; decide)) (fun q => absurd q (by omega)) (fun _ => ⟨by omega, b1631⟩), rfl⟩⟩
  · refine w_load (pc' := 7) (v := .ref F) (m := 1) (ykc_7 (e := (2, .aload_n kF0, 0)) rfl) rfl rfl ?_
    have ec : c = 41 := by omega
    subst ec
    refine w_cv (as := [.ref F]) (r := []) (ykc_7 (e := (6, .invokevirtual 85, 0)) rfl) rfl rfl rfl rfl (zc_close hF0 h40) (fun v1640 ph1641 hv => ?_)
    rcases hv with ⟨fcl, h9cl, ⟨s, hs, rfl, hcl⟩ | ⟨hs, rfl⟩⟩
    · show zW n D 7 Q 10 [some (.ref F), some (.int (zn 41)), none] [.int (zI true)] ph1641
      refine w_ret (v := (some (.int (zI true)))) (ykc_7 (e := (7, .ireturn, 0)) rfl) zr_z ?_
      rw [hQ]
      exact ⟨fcl, h9cl, Or.inl ⟨s, hs, rfl, hcl⟩⟩
    · show zW n D 7 Q 10 [some (.ref F), some (.int (zn 41)), none] [.int (zI false)] ph1641
      refine w_ret (v := (some (.int (zI false)))) (ykc_7 (e := (7, .ireturn, 0)) rfl) zr_z ?_
      rw [hQ]
      exact ⟨fcl, h9cl, Or.inr ⟨hs, rfl⟩⟩
    
theorem zstep_dg {C W : List Nat} {cm : Nat → Bool} {dp dg c : Nat} {wt : Bool} (h : zdi c = false) : zstep c (C, W, cm, dp, dg, wt) = zstep c (C, W, cm, dp, 0, wt) := by
  unfold zstep
  simp [h]
theorem zc_take {ph : pm_H} {F : Nat} {C W : List Nat} {cm : Nat → Bool} {dp dg : Nat} {wt : Bool} {c : Nat} (hc : c < 256) (hiv : zIv (C, W, cm, dp, dg, wt)) (hF : zFs ph F (C, W, cm, dp, dg, wt)) (h40 : C.length + W.length < 40) : zM 4 [.ref F, .int (zn c)] ph (fun v0 q => zFf F ph q ∧ (∃ cm9, zFb q F cm9) ∧ ((∃ s, zstep c (C, W, cm, dp, dg, wt) = some s ∧ v0 = some (.int (zI true)) ∧ zFs q F s) ∨ (zstep c (C, W, cm, dp, dg, wt) = none ∧ v0 = some (.int (zI false))))) := by
  obtain ⟨Q, hQ⟩ : ∃ Q : Option Value → pm_H → Prop, Q = (fun v0 q => zFf F ph q ∧ (∃ cm9, zFb q F cm9) ∧ ((∃ s, zstep c (C, W, cm, dp, dg, wt) = some s ∧ v0 = some (.int (zI true)) ∧ zFs q F s) ∨ (zstep c (C, W, cm, dp, dg, wt) = none ∧ v0 = some (.int (zI false))))) := ⟨_, rfl⟩
  rw [← hQ]
  refine zM_mk fun n D => ?_
  show zW n D 4 Q 0 [some (.ref F), some (.int (zn c))] [] ph
  have c_0 : ((Int8.ofInt 48).toInt32).toInt = 48 := by decide
  have c_1 : ((Int8.ofInt 57).toInt32).toInt = 57 := by decide
  have c_2 : (Int32.ofInt 0).toInt = 0 := by decide
  have hF0 := hF
  obtain ⟨hp, hC, hW, hb, hd⟩ := hF
  have hp : zFp ph F := hp
  have hC : zFc ph F C := hC
  have hW : zFw ph F W := hW
  have hb : zFb ph F cm := hb
  have hd : zFd ph F dp dg wt := hd
  have tdp := znt (k := dp) (by have := hd.2.1; omega)
  have tdg := znt (k := dg) (by have := hd.2.2.2.1; omega)
  have hdp4 := hd.2.1
  have hdg3 := hd.2.2.2.1
  have tCl := znt (k := C.length) (by omega)
  have tWl := znt (k := W.length) (by omega)
  have tc := znt (k := c) (by omega)
  refine w_load (pc' := 1) (v := .int (zn c)) (m := 1) (ykc_4 (e := (2, .iload_n kF1, 0)) rfl) rfl rfl ?_
  refine w_push (pc' := 3) (v := .int ((Int8.ofInt 48).toInt32)) (m := 2) (ykc_4 (e := (1, .bipush 48, 0)) rfl) rfl rfl ?_
  refine w_ilt (ykc_4 (e := (4, .if_icmp .lt 18, 21)) rfl) rfl (fun b1642 => ?_) (fun b1642 => ?_)
  · refine w_load (pc' := 22) (v := .ref F) (m := 1) (ykc_4 (e := (2, .aload_n kF0, 0)) rfl) rfl rfl ?_
    refine w_alu (pc' := 23) (st' := [.int (Int32.ofInt 0), .ref F]) (ykc_4 (e := (0, .iconst 0, 0)) rfl) rfl rfl ?_
    refine w_pf (pc' := 26) (ykc_4 (e := (5, .putfield 60, 0)) rfl) rfl rfl (fun ph1644 u1643 => ?_)
    refine w_load (pc' := 27) (v := .ref F) (m := 1) (ykc_4 (e := (2, .aload_n kF0, 0)) rfl) rfl rfl ?_
    refine w_gf (pc' := 30) (v := .int (zI wt)) (ykc_4 (e := (5, .getfield 43, 0)) rfl) rfl ((u1643.2.1 F 7 (fun q => absurd q.2 (by decide))).trans hd.2.2.2.2) rfl ?_
    refine w_beq (ykc_4 (e := (4, .ifCond .eq 11, 41)) rfl) rfl (fun b1645 => ?_) (fun b1645 => ?_)
    · refine w_load (pc' := 42) (v := .ref F) (m := 1) (ykc_4 (e := (2, .aload_n kF0, 0)) rfl) rfl rfl ?_
      refine w_load (pc' := 43) (v := .int (zn c)) (m := 1) (ykc_4 (e := (2, .iload_n kF1, 0)) rfl) rfl rfl ?_
      have hnd : zdi c = false := zdi_f (by omega)
      have hwt : wt = false := b1645
      subst hwt
      have f1 : zFr [] [(F, 6)] ph ph1644 := zFr_st u1643 (Or.inr (by simp))
      have hF1 : zFs ph1644 F (C, W, cm, dp, 0, false) := zFs_mk ⟨zFp_F f1 (by simp) (by simp) hp, zFc_F f1 (by simp) (by simp) hC, zFw_F f1 (by simp) (by simp) hW, zFb_F f1 (by simp) (by simp) hb, ⟨(f1.1 F 5 (by simp) (by simp)).trans hd.1, hd.2.1, u1643.1, by decide, (f1.1 F 7 (by simp) (by simp)).trans hd.2.2.2.2⟩⟩
      rw [zstep_dg hnd] at hQ
      refine w_cv (as := [.ref F, .int (zn c)]) (r := []) (ykc_4 (e := (6, .invokevirtual 79, 0)) rfl) rfl rfl rfl rfl (zc_takeO hF1 h40 hc hnd) (fun v1646 ph1647 hv => ?_)
      rcases hv with ⟨ff, h9f, ⟨s, hs, rfl, hs2⟩ | ⟨hs, rfl⟩⟩
      · show zW n D 4 Q 46 [some (.ref F), some (.int (zn c))] [.int (zI true)] ph1647
        refine w_ret (v := (some (.int (zI true)))) (ykc_4 (e := (7, .ireturn, 0)) rfl) zr_z ?_
        rw [hQ]
        exact ⟨zFr_trans (zFr_mono f1 (by simp) (by simp)) ff, h9f, Or.inl ⟨s, hs, rfl, hs2⟩⟩
      · show zW n D 4 Q 46 [some (.ref F), some (.int (zn c))] [.int (zI false)] ph1647
        refine w_ret (v := (some (.int (zI false)))) (ykc_4 (e := (7, .ireturn, 0)) rfl) zr_z ?_
        rw [hQ]
        exact ⟨zFr_trans (zFr_mono f1 (by simp) (by simp)) ff, h9f, Or.inr ⟨hs, rfl⟩⟩
      
    · refine w_load (pc' := 34) (v := .ref F) (m := 1) (ykc_4 (e := (2, .aload_n kF0, 0)) rfl) rfl rfl ?_
      refine w_load (pc' := 35) (v := .int (zn c)) (m := 1) (ykc_4 (e := (2, .iload_n kF1, 0)) rfl) rfl rfl ?_
      have hnd : zdi c = false := zdi_f (by omega)
      have hwt : wt = true := b1645
      subst hwt
      have f1 : zFr [] [(F, 6)] ph ph1644 := zFr_st u1643 (Or.inr (by simp))
      have hF1 : zFs ph1644 F (C, W, cm, dp, 0, true) := zFs_mk ⟨zFp_F f1 (by simp) (by simp) hp, zFc_F f1 (by simp) (by simp) hC, zFw_F f1 (by simp) (by simp) hW, zFb_F f1 (by simp) (by simp) hb, ⟨(f1.1 F 5 (by simp) (by simp)).trans hd.1, hd.2.1, u1643.1, by decide, (f1.1 F 7 (by simp) (by simp)).trans hd.2.2.2.2⟩⟩
      rw [zstep_dg hnd] at hQ
      refine w_cv (as := [.ref F, .int (zn c)]) (r := []) (ykc_4 (e := (6, .invokevirtual 76, 0)) rfl) rfl rfl rfl rfl (zc_takeT hc hnd hF1 h40) (fun v1648 ph1649 hv => ?_)
      rcases hv with ⟨ff, h9f, ⟨s, hs, rfl, hs2⟩ | ⟨hs, rfl⟩⟩
      · show zW n D 4 Q 38 [some (.ref F), some (.int (zn c))] [.int (zI true)] ph1649
        refine w_br (pc' := 46) (st' := [.int (zI true)]) (ykc_4 (e := (4, .goto 8, 46)) rfl) rfl ?_
        refine w_ret (v := (some (.int (zI true)))) (ykc_4 (e := (7, .ireturn, 0)) rfl) zr_z ?_
        rw [hQ]
        exact ⟨zFr_trans (zFr_mono f1 (by simp) (by simp)) ff, h9f, Or.inl ⟨s, hs, rfl, hs2⟩⟩
      · show zW n D 4 Q 38 [some (.ref F), some (.int (zn c))] [.int (zI false)] ph1649
        refine w_br (pc' := 46) (st' := [.int (zI false)]) (ykc_4 (e := (4, .goto 8, 46)) rfl) rfl ?_
        refine w_ret (v := (some (.int (zI false)))) (ykc_4 (e := (7, .ireturn, 0)) rfl) zr_z ?_
        rw [hQ]
        exact ⟨zFr_trans (zFr_mono f1 (by simp) (by simp)) ff, h9f, Or.inr ⟨hs, rfl⟩⟩
      
  · refine w_load (pc' := 7) (v := .int (zn c)) (m := 1) (ykc_4 (e := (2, .iload_n kF1, 0)) rfl) rfl rfl ?_
    refine w_push (pc' := 9) (v := .int ((Int8.ofInt 57).toInt32)) (m := 2) (ykc_4 (e := (1, .bipush 57, 0)) rfl) rfl rfl ?_
    refine w_igt (ykc_4 (e := (4, .if_icmp .gt 12, 21)) rfl) rfl (fun b1650 => ?_) (fun b1650 => ?_)
    · refine w_load (pc' := 22) (v := .ref F) (m := 1) (ykc_4 (e := (2, .aload_n kF0, 0)) rfl) rfl rfl ?_
      refine w_alu (pc' := 23) (st' := [.int (Int32.ofInt 0), .ref F]) (ykc_4 (e := (0, .iconst 0, 0)) rfl) rfl rfl ?_
      refine w_pf (pc' := 26) (ykc_4 (e := (5, .putfield 60, 0)) rfl) rfl rfl (fun ph1652 u1651 => ?_)
      refine w_load (pc' := 27) (v := .ref F) (m := 1) (ykc_4 (e := (2, .aload_n kF0, 0)) rfl) rfl rfl ?_
      refine w_gf (pc' := 30) (v := .int (zI wt)) (ykc_4 (e := (5, .getfield 43, 0)) rfl) rfl ((u1651.2.1 F 7 (fun q => absurd q.2 (by decide))).trans hd.2.2.2.2) rfl ?_
      refine w_beq (ykc_4 (e := (4, .ifCond .eq 11, 41)) rfl) rfl (fun b1653 => ?_) (fun b1653 => ?_)
      · refine w_load (pc' := 42) (v := .ref F) (m := 1) (ykc_4 (e := (2, .aload_n kF0, 0)) rfl) rfl rfl ?_
        refine w_load (pc' := 43) (v := .int (zn c)) (m := 1) (ykc_4 (e := (2, .iload_n kF1, 0)) rfl) rfl rfl ?_
        have hnd : zdi c = false := zdi_f (by omega)
        have hwt : wt = false := b1653
        subst hwt
        have f1 : zFr [] [(F, 6)] ph ph1652 := zFr_st u1651 (Or.inr (by simp))
        have hF1 : zFs ph1652 F (C, W, cm, dp, 0, false) := zFs_mk ⟨zFp_F f1 (by simp) (by simp) hp, zFc_F f1 (by simp) (by simp) hC, zFw_F f1 (by simp) (by simp) hW, zFb_F f1 (by simp) (by simp) hb, ⟨(f1.1 F 5 (by simp) (by simp)).trans hd.1, hd.2.1, u1651.1, by decide, (f1.1 F 7 (by simp) (by simp)).trans hd.2.2.2.2⟩⟩
        rw [zstep_dg hnd] at hQ
        refine w_cv (as := [.ref F, .int (zn c)]) (r := []) (ykc_4 (e := (6, .invokevirtual 79, 0)) rfl) rfl rfl rfl rfl (zc_takeO hF1 h40 hc hnd) (fun v1654 ph1655 hv => ?_)
        rcases hv with ⟨ff, h9f, ⟨s, hs, rfl, hs2⟩ | ⟨hs, rfl⟩⟩
        · show zW n D 4 Q 46 [some (.ref F), some (.int (zn c))] [.int (zI true)] ph1655
          refine w_ret (v := (some (.int (zI true)))) (ykc_4 (e := (7, .ireturn, 0)) rfl) zr_z ?_
          rw [hQ]
          exact ⟨zFr_trans (zFr_mono f1 (by simp) (by simp)) ff, h9f, Or.inl ⟨s, hs, rfl, hs2⟩⟩
        · show zW n D 4 Q 46 [some (.ref F), some (.int (zn c))] [.int (zI false)] ph1655
          refine w_ret (v := (some (.int (zI false)))) (ykc_4 (e := (7, .ireturn, 0)) rfl) zr_z ?_
          rw [hQ]
          exact ⟨zFr_trans (zFr_mono f1 (by simp) (by simp)) ff, h9f, Or.inr ⟨hs, rfl⟩⟩
        
      · refine w_load (pc' := 34) (v := .ref F) (m := 1) (ykc_4 (e := (2, .aload_n kF0, 0)) rfl) rfl rfl ?_
        refine w_load (pc' := 35) (v := .int (zn c)) (m := 1) (ykc_4 (e := (2, .iload_n kF1, 0)) rfl) rfl rfl ?_
        have hnd : zdi c = false := zdi_f (by omega)
        have hwt : wt = true := b1653
        subst hwt
        have f1 : zFr [] [(F, 6)] ph ph1652 := zFr_st u1651 (Or.inr (by simp))
        have hF1 : zFs ph1652 F (C, W, cm, dp, 0, true) := zFs_mk ⟨zFp_F f1 (by simp) (by simp) hp, zFc_F f1 (by simp) (by simp) hC, zFw_F f1 (by simp) (by simp) hW, zFb_F f1 (by simp) (by simp) hb, ⟨(f1.1 F 5 (by simp) (by simp)).trans hd.1, hd.2.1, u1651.1, by decide, (f1.1 F 7 (by simp) (by simp)).trans hd.2.2.2.2⟩⟩
        rw [zstep_dg hnd] at hQ
        refine w_cv (as := [.ref F, .int (zn c)]) (r := []) (ykc_4 (e := (6, .invokevirtual 76, 0)) rfl) rfl rfl rfl rfl (zc_takeT hc hnd hF1 h40) (fun v1656 ph1657 hv => ?_)
        rcases hv with ⟨ff, h9f, ⟨s, hs, rfl, hs2⟩ | ⟨hs, rfl⟩⟩
        · show zW n D 4 Q 38 [some (.ref F), some (.int (zn c))] [.int (zI true)] ph1657
          refine w_br (pc' := 46) (st' := [.int (zI true)]) (ykc_4 (e := (4, .goto 8, 46)) rfl) rfl ?_
          refine w_ret (v := (some (.int (zI true)))) (ykc_4 (e := (7, .ireturn, 0)) rfl) zr_z ?_
          rw [hQ]
          exact ⟨zFr_trans (zFr_mono f1 (by simp) (by simp)) ff, h9f, Or.inl ⟨s, hs, rfl, hs2⟩⟩
        · show zW n D 4 Q 38 [some (.ref F), some (.int (zn c))] [.int (zI false)] ph1657
          refine w_br (pc' := 46) (st' := [.int (zI false)]) (ykc_4 (e := (4, .goto 8, 46)) rfl) rfl ?_
          refine w_ret (v := (some (.int (zI false)))) (ykc_4 (e := (7, .ireturn, 0)) rfl) zr_z ?_
          rw [hQ]
          exact ⟨zFr_trans (zFr_mono f1 (by simp) (by simp)) ff, h9f, Or.inr ⟨hs, rfl⟩⟩
        
    · refine w_load (pc' := 13) (v := .ref F) (m := 1) (ykc_4 (e := (2, .aload_n kF0, 0)) rfl) rfl rfl ?_
      refine w_load (pc' := 14) (v := .int (zn c)) (m := 1) (ykc_4 (e := (2, .iload_n kF1, 0)) rfl) rfl rfl ?_
      refine w_push (pc' := 16) (v := .int ((Int8.ofInt 48).toInt32)) (m := 2) (ykc_4 (e := (1, .bipush 48, 0)) rfl) rfl rfl ?_
      have e1658 : (zn c) - ((Int8.ofInt 48).toInt32) = zn (c - 48) := zsubN (a := c) (b := 48) tc c_0 (by omega)
      have te1658 := znt (k := c - 48) (by omega)
      refine w_alu (pc' := 17) (st' := [.int (zn (c - 48)), .ref F]) (ykc_4 (e := (0, .isub, 0)) rfl) (by show some ([.int ((zn c) - ((Int8.ofInt 48).toInt32)), .ref F] : List Value) = _; rw [e1658]) rfl ?_
      have e48 : 48 + (c - 48) = c := by omega
      refine w_cv (as := [.ref F, .int (zn (c - 48))]) (r := []) (ykc_4 (e := (6, .invokevirtual 73, 0)) rfl) rfl rfl rfl rfl (zc_takeD (d := c - 48) (by omega) hiv hF0 h40) (fun v1659 ph1660 hv => ?_)
      rcases hv with ⟨ff, h9f, ⟨s, hs, rfl, hs2⟩ | ⟨hs, rfl⟩⟩
      · show zW n D 4 Q 20 [some (.ref F), some (.int (zn c))] [.int (zI true)] ph1660
        refine w_ret (v := (some (.int (zI true)))) (ykc_4 (e := (7, .ireturn, 0)) rfl) zr_z ?_
        rw [e48] at hs
        rw [hQ]
        exact ⟨ff, h9f, Or.inl ⟨s, hs, rfl, hs2⟩⟩
      · show zW n D 4 Q 20 [some (.ref F), some (.int (zn c))] [.int (zI false)] ph1660
        refine w_ret (v := (some (.int (zI false)))) (ykc_4 (e := (7, .ireturn, 0)) rfl) zr_z ?_
        rw [e48] at hs
        rw [hQ]
        exact ⟨ff, h9f, Or.inr ⟨hs, rfl⟩⟩
      
theorem zc_start {ph : pm_H} {F : Nat} {cm : Nat → Bool} (hp : zFp ph F) (hb : zFb ph F cm) : zM 2 [.ref F] ph (fun v0 q => v0 = none ∧ zFf F ph q ∧ zFs q F ([], [], zub cm 0 false, 0, 0, true)) := by
  obtain ⟨Q, hQ⟩ : ∃ Q : Option Value → pm_H → Prop, Q = (fun v0 q => v0 = none ∧ zFf F ph q ∧ zFs q F ([], [], zub cm 0 false, 0, 0, true)) := ⟨_, rfl⟩
  rw [← hQ]
  refine zM_mk fun n D => ?_
  show zW n D 2 Q 0 [some (.ref F)] [] ph
  have c_0 : (Int32.ofInt 0).toInt = 0 := by decide
  have c_1 : (Int32.ofInt 1).toInt = 1 := by decide
  refine w_load (pc' := 1) (v := .ref F) (m := 1) (ykc_2 (e := (2, .aload_n kF0, 0)) rfl) rfl rfl ?_
  refine w_alu (pc' := 2) (st' := [.int (Int32.ofInt 0), .ref F]) (ykc_2 (e := (0, .iconst 0, 0)) rfl) rfl rfl ?_
  refine w_pf (pc' := 5) (ykc_2 (e := (5, .putfield 55, 0)) rfl) rfl rfl (fun ph1662 u1661 => ?_)
  refine w_load (pc' := 6) (v := .ref F) (m := 1) (ykc_2 (e := (2, .aload_n kF0, 0)) rfl) rfl rfl ?_
  refine w_alu (pc' := 7) (st' := [.int (Int32.ofInt 0), .ref F]) (ykc_2 (e := (0, .iconst 0, 0)) rfl) rfl rfl ?_
  refine w_pf (pc' := 10) (ykc_2 (e := (5, .putfield 57, 0)) rfl) rfl rfl (fun ph1664 u1663 => ?_)
  refine w_load (pc' := 11) (v := .ref F) (m := 1) (ykc_2 (e := (2, .aload_n kF0, 0)) rfl) rfl rfl ?_
  refine w_alu (pc' := 12) (st' := [.int (Int32.ofInt 0), .ref F]) (ykc_2 (e := (0, .iconst 0, 0)) rfl) rfl rfl ?_
  refine w_pf (pc' := 15) (ykc_2 (e := (5, .putfield 47, 0)) rfl) rfl rfl (fun ph1666 u1665 => ?_)
  refine w_load (pc' := 16) (v := .ref F) (m := 1) (ykc_2 (e := (2, .aload_n kF0, 0)) rfl) rfl rfl ?_
  refine w_alu (pc' := 17) (st' := [.int (Int32.ofInt 0), .ref F]) (ykc_2 (e := (0, .iconst 0, 0)) rfl) rfl rfl ?_
  refine w_pf (pc' := 20) (ykc_2 (e := (5, .putfield 60, 0)) rfl) rfl rfl (fun ph1668 u1667 => ?_)
  refine w_load (pc' := 21) (v := .ref F) (m := 1) (ykc_2 (e := (2, .aload_n kF0, 0)) rfl) rfl rfl ?_
  refine w_alu (pc' := 22) (st' := [.int (Int32.ofInt 1), .ref F]) (ykc_2 (e := (0, .iconst 1, 0)) rfl) rfl rfl ?_
  refine w_pf (pc' := 25) (ykc_2 (e := (5, .putfield 43, 0)) rfl) rfl rfl (fun ph1670 u1669 => ?_)
  refine w_load (pc' := 26) (v := .ref F) (m := 1) (ykc_2 (e := (2, .aload_n kF0, 0)) rfl) rfl rfl ?_
  refine w_gf (pc' := 29) (v := .ref (F + 3)) (ykc_2 (e := (5, .getfield 16, 0)) rfl) rfl ((u1669.2.1 F 4 (fun q => absurd q.2 (by decide))).trans ((u1667.2.1 F 4 (fun q => absurd q.2 (by decide))).trans ((u1665.2.1 F 4 (fun q => absurd q.2 (by decide))).trans ((u1663.2.1 F 4 (fun q => absurd q.2 (by decide))).trans ((u1661.2.1 F 4 (fun q => absurd q.2 (by decide))).trans hp.2.2))))) rfl ?_
  refine w_alu (pc' := 30) (st' := [.int (Int32.ofInt 0), .ref (F + 3)]) (ykc_2 (e := (0, .iconst 0, 0)) rfl) rfl rfl ?_
  refine w_alu (pc' := 31) (st' := [.int (Int32.ofInt 0), .int (Int32.ofInt 0), .ref (F + 3)]) (ykc_2 (e := (0, .iconst 0, 0)) rfl) rfl rfl ?_
  refine w_bas (pc' := 32) (k := 0) (ykc_2 (e := (5, .bastore, 0)) rfl) (by omega) rfl (fun ph1672 u1671 => ?_)
  refine w_ret (v := none) (ykc_2 (e := (7, .return_, 0)) rfl) (zr_v rfl) ?_
  have ff : zFr [F + 1, F + 2, F + 3] [(F, 1), (F, 3), (F, 5), (F, 6), (F, 7)] ph ph1672 := (show zFr [F + 1, F + 2, F + 3] [(F, 1), (F, 3), (F, 5), (F, 6), (F, 7)] ph ph1672 from (zFr_trans (zFr_trans (zFr_trans (zFr_trans (zFr_trans (zFr_st u1661 (Or.inr (by simp))) (zFr_st u1663 (Or.inr (by simp)))) (zFr_st u1665 (Or.inr (by simp)))) (zFr_st u1667 (Or.inr (by simp)))) (zFr_st u1669 (Or.inr (by simp)))) (zFr_st u1671 (Or.inl (by simp)))))
  rw [hQ]
  refine ⟨rfl, ff, zFs_mk ⟨zFp_F ff (by simp) (by simp) hp, ⟨((u1671.2.1 F 1 (fun q => by have q2 := q.1; omega)).trans ((u1669.2.1 F 1 (fun q => absurd q.2 (by decide))).trans ((u1667.2.1 F 1 (fun q => absurd q.2 (by decide))).trans ((u1665.2.1 F 1 (fun q => absurd q.2 (by decide))).trans ((u1663.2.1 F 1 (fun q => absurd q.2 (by decide))).trans u1661.1))))), fun i c h => by cases h⟩, ⟨((u1671.2.1 F 3 (fun q => by have q2 := q.1; omega)).trans ((u1669.2.1 F 3 (fun q => absurd q.2 (by decide))).trans ((u1667.2.1 F 3 (fun q => absurd q.2 (by decide))).trans ((u1665.2.1 F 3 (fun q => absurd q.2 (by decide))).trans u1663.1)))), fun i c h => by cases h⟩, fun i hi => ?_, ⟨((u1671.2.1 F 5 (fun q => by have q2 := q.1; omega)).trans ((u1669.2.1 F 5 (fun q => absurd q.2 (by decide))).trans ((u1667.2.1 F 5 (fun q => absurd q.2 (by decide))).trans u1665.1))), by decide, ((u1671.2.1 F 6 (fun q => by have q2 := q.1; omega)).trans ((u1669.2.1 F 6 (fun q => absurd q.2 (by decide))).trans u1667.1)), by decide, ((u1671.2.1 F 7 (fun q => by have q2 := q.1; omega)).trans u1669.1)⟩⟩⟩
  by_cases e : i = 0
  · subst e; rw [zub_e]; exact u1671.1
  · rw [zub_n e]; exact ((u1671.2.1 (F + 3) i (fun q => e q.2)).trans ((u1669.2.1 (F + 3) i (fun q => by have q2 := q.1; omega)).trans ((u1667.2.1 (F + 3) i (fun q => by have q2 := q.1; omega)).trans ((u1665.2.1 (F + 3) i (fun q => by have q2 := q.1; omega)).trans ((u1663.2.1 (F + 3) i (fun q => by have q2 := q.1; omega)).trans ((u1661.2.1 (F + 3) i (fun q => by have q2 := q.1; omega)).trans (hb i hi)))))))
theorem zc_default {ph : pm_H} {F : Nat} (hp : zFp ph F) (hC : zFc ph F []) : zM 3 [.ref F] ph (fun v0 q => v0 = none ∧ zFr [F + 1] [(F, 1)] ph q ∧ zFc q F [2004, 1000, 1001]) := by
  obtain ⟨Q, hQ⟩ : ∃ Q : Option Value → pm_H → Prop, Q = (fun v0 q => v0 = none ∧ zFr [F + 1] [(F, 1)] ph q ∧ zFc q F [2004, 1000, 1001]) := ⟨_, rfl⟩
  rw [← hQ]
  refine zM_mk fun n D => ?_
  show zW n D 3 Q 0 [some (.ref F)] [] ph
  have c_0 : ((Int16.ofInt 1000).toInt32).toInt = 1000 := by decide
  have c_1 : ((Int8.ofInt (-45)).toInt32).toInt = -45 := by decide
  have c_2 : ((Int8.ofInt 108).toInt32).toInt = 108 := by decide
  have c_3 : ((Int8.ofInt 98).toInt32).toInt = 98 := by decide
  refine w_load (pc' := 1) (v := .ref F) (m := 1) (ykc_3 (e := (2, .aload_n kF0, 0)) rfl) rfl rfl ?_
  refine w_push (pc' := 4) (v := .int ((Int16.ofInt 1000).toInt32)) (m := 3) (ykc_3 (e := (1, .sipush 1000, 0)) rfl) rfl rfl ?_
  refine w_push (pc' := 6) (v := .ref 1048626) (m := 2) (ykc_3 (e := (1, .ldc 63, 0)) rfl) rfl rfl ?_
  refine w_push (pc' := 8) (v := .int ((Int8.ofInt 108).toInt32)) (m := 2) (ykc_3 (e := (1, .bipush 108, 0)) rfl) rfl rfl ?_
  refine w_cvr (show Nat.blt 1048626 1048576 = false ∧ 1048626 - 1048576 = 50 from ⟨rfl, rfl⟩) (as := [.ref 1048626, .int ((Int8.ofInt 108).toInt32)]) (r := [.int ((Int16.ofInt 1000).toInt32), .ref F]) (ykc_3 (e := (6, .invokevirtual 65, 0)) rfl) rfl rfl rfl rfl ((show zM 308 [.ref 1048626, .int ((Int8.ofInt 108).toInt32)] ph _ from (show (Int8.ofInt 108).toInt32 = zn 108 by decide) ▸ zc_letter (c := 108) (ph := ph) (by decide))) (fun v1673 ph1674 hv => ?_)
  obtain ⟨rfl, hl9⟩ := hv
  obtain rfl := (show _ = some (Value.int (zn 1)) by
    rcases hl9 with ⟨h8, h9⟩ | ⟨h8, h9⟩
    · exact h9
    · exact absurd (show zlt 108 < 8 by decide) h8)
  show zW n D 3 Q 11 [some (.ref F)] [.int (zn 1), .int ((Int16.ofInt 1000).toInt32), .ref F] ph
  have e1675 : ((Int16.ofInt 1000).toInt32) + (zn 1) = zn (1001) := (zaddN (a := 1000) (b := 1) c_0 (znt (by omega)) (by omega)) 
  have te1675 := znt (k := 1001) (by omega)
  refine w_alu (pc' := 12) (st' := [.int (zn (1001)), .ref F]) (ykc_3 (e := (0, .iadd, 0)) rfl) (by rw [← e1675]; rfl) rfl ?_
  refine w_cv (as := [.ref F, .int (zn (1001))]) (r := []) (ykc_3 (e := (6, .invokevirtual 70, 0)) rfl) rfl rfl rfl rfl (zc_emit (k := 0) hp.1 hC.1 (by decide)) (fun v1676 ph1677 hv => ?_)
  obtain ⟨rfl, ea, g1_ea, g2_ea, g3_ea⟩ := hv
  show zW n D 3 Q 15 [some (.ref F)] [] ph1677
  refine w_load (pc' := 16) (v := .ref F) (m := 1) (ykc_3 (e := (2, .aload_n kF0, 0)) rfl) rfl rfl ?_
  refine w_push (pc' := 19) (v := .int ((Int16.ofInt 1000).toInt32)) (m := 3) (ykc_3 (e := (1, .sipush 1000, 0)) rfl) rfl rfl ?_
  refine w_push (pc' := 21) (v := .ref 1048626) (m := 2) (ykc_3 (e := (1, .ldc 63, 0)) rfl) rfl rfl ?_
  refine w_push (pc' := 23) (v := .int ((Int8.ofInt 98).toInt32)) (m := 2) (ykc_3 (e := (1, .bipush 98, 0)) rfl) rfl rfl ?_
  refine w_cvr (show Nat.blt 1048626 1048576 = false ∧ 1048626 - 1048576 = 50 from ⟨rfl, rfl⟩) (as := [.ref 1048626, .int ((Int8.ofInt 98).toInt32)]) (r := [.int ((Int16.ofInt 1000).toInt32), .ref F]) (ykc_3 (e := (6, .invokevirtual 65, 0)) rfl) rfl rfl rfl rfl ((show zM 308 [.ref 1048626, .int ((Int8.ofInt 98).toInt32)] ph1677 _ from (show (Int8.ofInt 98).toInt32 = zn 98 by decide) ▸ zc_letter (c := 98) (ph := ph1677) (by decide))) (fun v1678 ph1679 hv => ?_)
  obtain ⟨rfl, hl9⟩ := hv
  obtain rfl := (show _ = some (Value.int (zn 0)) by
    rcases hl9 with ⟨h8, h9⟩ | ⟨h8, h9⟩
    · exact h9
    · exact absurd (show zlt 98 < 8 by decide) h8)
  show zW n D 3 Q 26 [some (.ref F)] [.int (zn 0), .int ((Int16.ofInt 1000).toInt32), .ref F] ph1677
  have e1680 : ((Int16.ofInt 1000).toInt32) + (zn 0) = zn (1000) := (zaddN (a := 1000) (b := 0) c_0 (znt (by omega)) (by omega)) 
  have te1680 := znt (k := 1000) (by omega)
  refine w_alu (pc' := 27) (st' := [.int (zn (1000)), .ref F]) (ykc_3 (e := (0, .iadd, 0)) rfl) (by rw [← e1680]; rfl) rfl ?_
  refine w_cv (as := [.ref F, .int (zn (1000))]) (r := []) (ykc_3 (e := (6, .invokevirtual 70, 0)) rfl) rfl rfl rfl rfl (zc_emit (k := 1) ((ea.1 F 0 (by simp <;> omega) (by simp <;> omega)).trans hp.1) g1_ea (by decide)) (fun v1681 ph1682 hv => ?_)
  obtain ⟨rfl, eb, g1_eb, g2_eb, g3_eb⟩ := hv
  show zW n D 3 Q 30 [some (.ref F)] [] ph1682
  refine w_load (pc' := 31) (v := .ref F) (m := 1) (ykc_3 (e := (2, .aload_n kF0, 0)) rfl) rfl rfl ?_
  refine w_push (pc' := 33) (v := .int ((Int8.ofInt (-45)).toInt32)) (m := 2) (ykc_3 (e := (1, .bipush (-45), 0)) rfl) rfl rfl ?_
  refine w_cv (as := [.ref F, .int ((Int8.ofInt (-45)).toInt32)]) (r := []) (ykc_3 (e := (6, .invokevirtual 70, 0)) rfl) rfl rfl rfl rfl (zc_emit (k := 2) ((eb.1 F 0 (by simp <;> omega) (by simp <;> omega)).trans ((ea.1 F 0 (by simp <;> omega) (by simp <;> omega)).trans hp.1)) g1_eb (by decide)) (fun v1683 ph1684 hv => ?_)
  obtain ⟨rfl, ec, g1_ec, g2_ec, g3_ec⟩ := hv
  show zW n D 3 Q 36 [some (.ref F)] [] ph1684
  refine w_ret (v := none) (ykc_3 (e := (7, .return_, 0)) rfl) (zr_v rfl) ?_
  rw [hQ]
  have e3 : zcc 2004 = (Int8.ofInt (-45)).toInt32 := by decide
  refine ⟨rfl, zFr_trans ea (zFr_trans eb ec), g1_ec, fun i c h => ?_⟩
  rcases (show i = 0 ∨ i = 1 ∨ i = 2 ∨ 3 ≤ i by omega) with e | e | e | e
  · subst e; cases h; exact ⟨by rw [e3]; exact g2_ec, Or.inr (Or.inl (by decide))⟩
  · subst e; cases h; exact ⟨(g3_ec 1 (by decide)).trans g2_eb, Or.inl (by decide)⟩
  · subst e; cases h; exact ⟨(g3_ec 0 (by decide)).trans ((g3_eb 0 (by decide)).trans g2_ea), Or.inl (by decide)⟩
  · rw [List.getElem?_eq_none (by simpa using e)] at h; cases h
/-- what the class's reading of n signs comes to: so many signs were taken, s then -/
def zOut (n : Nat) (t : Nat → Nat) (s0 : zAs) (z : Int) (Cs : List Nat) : Prop := (n = 0 ∧ z = -1 ∧ Cs = [2004, 1000, 1001]) ∨ (0 < n ∧ n ≤ 40 ∧ z = -1 ∧ ∃ C W cm dg, zrn t s0 0 n = some (C, W, cm, 0, dg, false) ∧ Cs = (zrl 1 W C).2) ∨ (0 < n ∧ ∃ (p : Nat) (s : zAs), p ≤ n ∧ p ≤ 40 ∧ zrn t s0 0 p = some s ∧ z = (p : Int) ∧ ((p < n ∧ p < 40 ∧ zstep (t p) s = none) ∨ (p = 40 ∧ p < n) ∨ (p = n ∧ (s.2.2.2.2.2 = true ∨ 0 < s.2.2.2.1))))
theorem zc_fread {ph : pm_H} {F ln : Nat} {t : Nat → Nat} {cm : Nat → Bool} (hS : zSh ph) (hF : F = 11 ∨ F = 16) (hT : zTc ph ln t) (hp : zFp ph F) (hb : zFb ph F cm) : zM 1 [.ref F, .ref 1] ph (fun v0 q => zFf F ph q ∧ (∃ cm2, zFb q F cm2) ∧ ∃ (z : Int32) (Cs : List Nat), v0 = some (.int z) ∧ zOut ln t ([], [], zub cm 0 false, 0, 0, true) z.toInt Cs ∧ (z.toInt = -1 → zFc q F Cs)) := by
  obtain ⟨Q, hQ⟩ : ∃ Q : Option Value → pm_H → Prop, Q = (fun v0 q => zFf F ph q ∧ (∃ cm2, zFb q F cm2) ∧ ∃ (z : Int32) (Cs : List Nat), v0 = some (.int z) ∧ zOut ln t ([], [], zub cm 0 false, 0, 0, true) z.toInt Cs ∧ (z.toInt = -1 → zFc q F Cs)) := ⟨_, rfl⟩
  rw [← hQ]
  refine zM_mk fun n D => ?_
  show zW n D 1 Q 0 [some (.ref F), some (.ref 1), none, none] [] ph
  have c_0 : ((Int8.ofInt 40).toInt32).toInt = 40 := by decide
  have c_1 : (Int32.ofInt (-1)).toInt = -1 := by decide
  have c_2 : (Int32.ofInt 0).toInt = 0 := by decide
  have c_3 : (Int32.ofInt 1).toInt = 1 := by decide
  have hT0 := hT
  obtain ⟨gn, hn80, gt⟩ := hT
  have tn := znt (k := ln) (by omega)
  refine w_load (pc' := 1) (v := .ref F) (m := 1) (ykc_1 (e := (2, .aload_n kF0, 0)) rfl) rfl rfl ?_
  refine w_cv (as := [.ref F]) (r := []) (ykc_1 (e := (6, .invokevirtual 23, 0)) rfl) rfl rfl rfl rfl (zc_start hp hb) (fun v1685 ph1686 hv => ?_)
  obtain ⟨rfl, f0, hs0⟩ := hv
  have hS1 := zSh_F f0 (by rcases hF with e | e <;> subst e <;> decide +kernel) hS
  have hT1 := zTc_F f0 (by rcases hF with e | e <;> subst e <;> decide) (by rcases hF with e | e <;> subst e <;> decide) (by rcases hF with e | e <;> subst e <;> simp) hT0
  show zW n D 1 Q 4 [some (.ref F), some (.ref 1), none, none] [] ph1686
  refine w_load (pc' := 5) (v := .ref 1) (m := 1) (ykc_1 (e := (2, .aload_n kF1, 0)) rfl) rfl rfl ?_
  refine w_cv (as := [.ref 1]) (r := []) (ykc_1 (e := (6, .invokevirtual 29, 0)) rfl) rfl rfl rfl rfl (zc_tsize hT1.1) (fun v1687 ph1688 hv => ?_)
  obtain ⟨rfl, rfl⟩ := hv
  show zW n D 1 Q 8 [some (.ref F), some (.ref 1), none, none] [.int (zn ln)] ph1686
  refine w_store (pc' := 9) (L' := [some (.ref F), some (.ref 1), some (.int (zn ln)), none]) (st' := []) (m := 1) (ykc_1 (e := (3, .istore_n kF2, 0)) rfl) rfl rfl ?_
  refine w_load (pc' := 10) (v := .int (zn ln)) (m := 1) (ykc_1 (e := (2, .iload_n kF2, 0)) rfl) rfl rfl ?_
  refine w_zne (ykc_1 (e := (4, .ifCond .ne 9, 19)) rfl) rfl (fun b1689 => ?_) (fun b1689 => ?_)
  · refine w_alu (pc' := 20) (st' := [.int (Int32.ofInt 0)]) (ykc_1 (e := (0, .iconst 0, 0)) rfl) rfl rfl ?_
    refine w_store (pc' := 21) (L' := [some (.ref F), some (.ref 1), some (.int (zn ln)), some (.int (Int32.ofInt 0))]) (st' := []) (m := 1) (ykc_1 (e := (3, .istore_n kF3, 0)) rfl) rfl rfl ?_
    have hl : ∀ (n : Nat), ∀ (p : Nat) (s : zAs) (ph2 : pm_H), (p ≤ ln) → (p ≤ 40) → (zrn t ([], [], zub cm 0 false, 0, 0, true) 0 p = some s) → (zFf F ph1686 ph2) → (zFs ph2 F s) → (zIv s) → (zLn s ≤ p) → zW n D 1 Q 21 [some (.ref F), some (.ref 1), some (.int (zn ln)), some (.int (zn p))] [] ph2 := by
      intro n
      induction n using Nat.strongRecOn with
      | ind n ih =>
        intro p s ph2 hpn hp40 hr hf hs hi hlen
        have tp := znt (k := p) (by omega)
        have hS2 := zSh_F hf (by rcases hF with e | e <;> subst e <;> decide +kernel) hS1
        have hT2 := zTc_F hf (by rcases hF with e | e <;> subst e <;> decide) (by rcases hF with e | e <;> subst e <;> decide) (by rcases hF with e | e <;> subst e <;> simp) hT1
        obtain ⟨C, W, cm1, dp, dg, wt⟩ := s
        have hlen : C.length + W.length ≤ p := hlen
        have hd : zFd ph2 F dp dg wt := hs.2.2.2.2
        have tdp := znt (k := dp) (by have := hd.2.1; omega)
        refine w_load (pc' := 22) (v := .int (zn p)) (m := 1) (ykc_1 (e := (2, .iload_n kF3, 0)) rfl) rfl rfl ?_
        refine w_load (pc' := 23) (v := .int (zn ln)) (m := 1) (ykc_1 (e := (2, .iload_n kF2, 0)) rfl) rfl rfl ?_
        refine w_ige (ykc_1 (e := (4, .if_icmp .ge 29, 52)) rfl) rfl (fun b1690 => ?_) (fun b1690 => ?_)
        · refine w_load (pc' := 53) (v := .ref F) (m := 1) (ykc_1 (e := (2, .aload_n kF0, 0)) rfl) rfl rfl ?_
          refine w_gf (pc' := 56) (v := .int (zI wt)) (ykc_1 (e := (5, .getfield 43, 0)) rfl) rfl hd.2.2.2.2 rfl ?_
          refine w_bne (ykc_1 (e := (4, .ifCond .ne 10, 66)) rfl) rfl (fun b1691 => ?_) (fun b1691 => ?_)
          · refine w_load (pc' := 67) (v := .int (zn ln)) (m := 1) (ykc_1 (e := (2, .iload_n kF2, 0)) rfl) rfl rfl ?_
            refine w_ret (v := (some (.int (zn ln)))) (ykc_1 (e := (7, .ireturn, 0)) rfl) (zr_v rfl) ?_
            have ep : p = ln := by omega
            rw [hQ]
            exact ⟨zFr_trans f0 hf, ⟨cm1, hs.2.2.2.1⟩, _, [], rfl, Or.inr (Or.inr ⟨by omega, p, _, hpn, hp40, hr, by omega, Or.inr (Or.inr ⟨ep, Or.inl b1691⟩)⟩), fun q => absurd q (by omega)⟩
          · refine w_load (pc' := 60) (v := .ref F) (m := 1) (ykc_1 (e := (2, .aload_n kF0, 0)) rfl) rfl rfl ?_
            refine w_gf (pc' := 63) (v := .int (zn dp)) (ykc_1 (e := (5, .getfield 47, 0)) rfl) rfl hd.1 rfl ?_
            refine w_zle (ykc_1 (e := (4, .ifCond .le 5, 68)) rfl) rfl (fun b1692 => ?_) (fun b1692 => ?_)
            · refine w_load (pc' := 69) (v := .ref F) (m := 1) (ykc_1 (e := (2, .aload_n kF0, 0)) rfl) rfl rfl ?_
              refine w_alu (pc' := 70) (st' := [.int (Int32.ofInt 1), .ref F]) (ykc_1 (e := (0, .iconst 1, 0)) rfl) rfl rfl ?_
              refine w_cv (as := [.ref F, .int (Int32.ofInt 1)]) (r := []) (ykc_1 (e := (6, .invokevirtual 51, 0)) rfl) rfl rfl rfl rfl (zc_release (b := 1) hs.1 hs.2.1 hs.2.2.1 (by omega) (by decide) (by show C.length + W.length ≤ 40; omega)) (fun v1693 ph1694 hv => ?_)
              obtain ⟨rfl, frl, hcr, hwr⟩ := hv
              show zW n D 1 Q 73 [some (.ref F), some (.ref 1), some (.int (zn ln)), some (.int (zn p))] [] ph1694
              refine w_alu (pc' := 74) (st' := [.int (Int32.ofInt (-1))]) (ykc_1 (e := (0, .iconst (-1), 0)) rfl) rfl rfl ?_
              refine w_ret (v := (some (.int (Int32.ofInt (-1))))) (ykc_1 (e := (7, .ireturn, 0)) rfl) (zr_v rfl) ?_
              have h0 : (Int32.ofInt (-1)).toInt = -1 := by decide
              have ep : p = ln := by omega
              have ew : wt = false := b1691
              have ed : dp = 0 := by omega
              subst ep ew ed
              rw [hQ]
              exact ⟨zFr_trans f0 (zFr_trans hf (zFr_mono frl (by simp) (by simp))), ⟨cm1, zFb_F frl (by simp) (by simp) hs.2.2.2.1⟩, _, _, rfl, Or.inr (Or.inl ⟨by omega, hp40, h0, C, W, cm1, dg, hr, rfl⟩), fun _ => hcr⟩
            · refine w_load (pc' := 67) (v := .int (zn ln)) (m := 1) (ykc_1 (e := (2, .iload_n kF2, 0)) rfl) rfl rfl ?_
              refine w_ret (v := (some (.int (zn ln)))) (ykc_1 (e := (7, .ireturn, 0)) rfl) (zr_v rfl) ?_
              have ep : p = ln := by omega
              rw [hQ]
              exact ⟨zFr_trans f0 hf, ⟨cm1, hs.2.2.2.1⟩, _, [], rfl, Or.inr (Or.inr ⟨by omega, p, _, hpn, hp40, hr, by omega, Or.inr (Or.inr ⟨ep, Or.inr (by show 0 < dp; omega)⟩)⟩), fun q => absurd q (by omega)⟩
        · refine w_load (pc' := 27) (v := .int (zn p)) (m := 1) (ykc_1 (e := (2, .iload_n kF3, 0)) rfl) rfl rfl ?_
          refine w_push (pc' := 29) (v := .int ((Int8.ofInt 40).toInt32)) (m := 2) (ykc_1 (e := (1, .bipush 40, 0)) rfl) rfl rfl ?_
          refine w_ieq (ykc_1 (e := (4, .if_icmp .eq 15, 44)) rfl) rfl (fun b1695 => ?_) (fun b1695 => ?_)
          · refine w_load (pc' := 45) (v := .int (zn p)) (m := 1) (ykc_1 (e := (2, .iload_n kF3, 0)) rfl) rfl rfl ?_
            refine w_ret (v := (some (.int (zn p)))) (ykc_1 (e := (7, .ireturn, 0)) rfl) (zr_v rfl) ?_
            rw [hQ]
            exact ⟨zFr_trans f0 hf, ⟨cm1, hs.2.2.2.1⟩, _, [], rfl, Or.inr (Or.inr ⟨by omega, p, _, hpn, hp40, hr, tp, Or.inr (Or.inl ⟨by omega, by omega⟩)⟩), fun q => absurd q (by omega)⟩
          · refine w_load (pc' := 33) (v := .ref F) (m := 1) (ykc_1 (e := (2, .aload_n kF0, 0)) rfl) rfl rfl ?_
            refine w_load (pc' := 34) (v := .ref 1) (m := 1) (ykc_1 (e := (2, .aload_n kF1, 0)) rfl) rfl rfl ?_
            refine w_load (pc' := 35) (v := .int (zn p)) (m := 1) (ykc_1 (e := (2, .iload_n kF3, 0)) rfl) rfl rfl ?_
            refine w_cv (as := [.ref 1, .int (zn p)]) (r := [.ref F]) (ykc_1 (e := (6, .invokevirtual 35, 0)) rfl) rfl rfl rfl rfl (zc_at hS2 hT2 (k := p) (by omega)) (fun v1696 ph1697 hv => ?_)
            obtain ⟨rfl, xa, rfl, exa⟩ := hv
            have da := @zTi_c ln p t
            have hgt := (gt p (by omega)).2
            obtain rfl : xa = zn (t p) := zn_of (by omega)
            show zW n D 1 Q 38 [some (.ref F), some (.ref 1), some (.int (zn ln)), some (.int (zn p))] [.int (zn (t p)), .ref F] ph2
            refine w_cv (as := [.ref F, .int (zn (t p))]) (r := []) (ykc_1 (e := (6, .invokevirtual 39, 0)) rfl) rfl rfl rfl rfl (zc_take (by omega) hi hs (by omega)) (fun v1698 ph1699 hv => ?_)
            rcases hv with ⟨ft, ⟨cm9, hcm9⟩, ⟨s2, h1, rfl, h2⟩ | ⟨h1, rfl⟩⟩
            · show zW n D 1 Q 41 [some (.ref F), some (.ref 1), some (.int (zn ln)), some (.int (zn p))] [.int (zI true)] ph1699
              refine w_bne (ykc_1 (e := (4, .ifCond .ne 5, 46)) rfl) rfl (fun b1700 => ?_) (fun q => absurd q (by decide))
              have e1701 : (zn p) + Int32.ofInt 1 = zn (p + 1) := (zaddN (a := p) (b := 1) (znt (by omega)) c_3 (by omega))
              have te1701 := znt (k := p + 1) (by omega)
              refine w_store (pc' := 49) (L' := [some (.ref F), some (.ref 1), some (.int (zn ln)), some (.int (zn (p + 1)))]) (st' := []) (m := 3) (ykc_1 (e := (3, .iinc 3 1, 0)) rfl) (by rw [← e1701]; rfl) rfl ?_
              refine w_gb (ykc_1 (e := (4, .goto (-28), 21)) rfl) (fun k1702 hk1702 => ?_)
              obtain ⟨hi2, hl2⟩ := zstep_iv hi h1
              exact ih k1702 hk1702 (p + 1) s2 _ (by omega) (by omega) (by show (zrn t _ 0 p).bind (zstep (t (0 + p))) = some s2; rw [hr, Nat.zero_add]; exact h1) (zFr_trans hf ft) h2 hi2 (Nat.le_trans hl2 (by show C.length + W.length + 1 ≤ p + 1; omega))
            · show zW n D 1 Q 41 [some (.ref F), some (.ref 1), some (.int (zn ln)), some (.int (zn p))] [.int (zI false)] ph1699
              refine w_bne (ykc_1 (e := (4, .ifCond .ne 5, 46)) rfl) rfl (fun q => absurd q (by decide)) (fun b1703 => ?_)
              refine w_load (pc' := 45) (v := .int (zn p)) (m := 1) (ykc_1 (e := (2, .iload_n kF3, 0)) rfl) rfl rfl ?_
              refine w_ret (v := (some (.int (zn p)))) (ykc_1 (e := (7, .ireturn, 0)) rfl) (zr_v rfl) ?_
              rw [hQ]
              exact ⟨zFr_trans f0 (zFr_trans hf ft), ⟨cm9, hcm9⟩, _, [], rfl, Or.inr (Or.inr ⟨by omega, p, _, hpn, hp40, hr, tp, Or.inl ⟨by omega, by omega, h1⟩⟩), fun q => absurd q (by omega)⟩
            
    exact hl n 0 _ ph1686 (Nat.zero_le _) (Nat.zero_le _) rfl zFr_refl hs0 (fun h => absurd h (by show ¬ 1 ≤ 0; decide)) (Nat.le_refl _)
  · refine w_load (pc' := 14) (v := .ref F) (m := 1) (ykc_1 (e := (2, .aload_n kF0, 0)) rfl) rfl rfl ?_
    refine w_cv (as := [.ref F]) (r := []) (ykc_1 (e := (6, .invokevirtual 26, 0)) rfl) rfl rfl rfl rfl (zc_default hs0.1 hs0.2.1) (fun v1704 ph1705 hv => ?_)
    obtain ⟨rfl, fd, hcd⟩ := hv
    show zW n D 1 Q 17 [some (.ref F), some (.ref 1), some (.int (zn ln)), none] [] ph1705
    refine w_alu (pc' := 18) (st' := [.int (Int32.ofInt (-1))]) (ykc_1 (e := (0, .iconst (-1), 0)) rfl) rfl rfl ?_
    refine w_ret (v := (some (.int (Int32.ofInt (-1))))) (ykc_1 (e := (7, .ireturn, 0)) rfl) (zr_v rfl) ?_
    have h0 : (Int32.ofInt (-1)).toInt = -1 := by decide
    rw [hQ]
    exact ⟨zFr_trans f0 (zFr_mono fd (by simp) (by simp)), ⟨_, zFb_F fd (by simp) (by simp) hs0.2.2.2.1⟩, _, [2004, 1000, 1001], rfl, Or.inl ⟨by omega, h0, rfl⟩, fun _ => hcd⟩
end
