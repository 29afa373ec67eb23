
/-! isClear, by hand, printed by wip/x/h_clear.py -/
def xsgn (x : Int32) : Int32 := (x >>> (31 &&& 31)) ||| ((-x).toUInt32 >>> (Int32.toUInt32 31 &&& Int32.toUInt32 31)).toInt32
set_option maxRecDepth 6000 in
theorem xsgn_all : (List.range 129).all (fun n => decide ((xsgn (Int32.ofInt ((n : Int) - 64))).toInt = Int.sign ((n : Int) - 64))) = true := by decide +kernel
set_option maxRecDepth 6000 in
theorem xsgn_ok {x : Int32} (h1 : -64 ≤ x.toInt) (h2 : x.toInt ≤ 64) : (xsgn x).toInt = Int.sign x.toInt := by
  have h := List.all_eq_true.mp xsgn_all ((x.toInt + 64).toNat) (List.mem_range.mpr (by omega))
  have e : (((x.toInt + 64).toNat : Nat) : Int) - 64 = x.toInt := by omega
  have e2 : Int32.ofInt x.toInt = x := Int32.ofInt_toInt x
  have h := of_decide_eq_true h
  rw [e, e2] at h
  exact h
/-- a step from a to b -/
def xtw (a b : Nat) : Nat := bif Nat.blt a b then a + 1 else bif Nat.blt b a then a - 1 else a
def xwk (W g a b : Nat) : Nat → Nat → Nat → Bool
  | 0, _, _ => false
  | n + 1, r, c => bif Nat.beq (W * xtw r a + xtw c b) g then true else bif Nat.blt (W * xtw r a + xtw c b) 49 then xwk W g a b n (xtw r a) (xtw c b) else false
set_option maxRecDepth 6000 in
theorem xtw_int (a b : Nat) : (xtw a b : Int) = (a : Int) + Int.sign ((b : Int) - a) := by
  unfold xtw
  rcases Nat.lt_trichotomy a b with h | h | h
  · have e : Nat.blt a b = true := Nat.ble_eq_true_of_le h
    rw [e, Int.sign_eq_one_of_pos (by omega)]
    rfl
  · subst h
    have e : Nat.blt a a = false := by
      cases hq : Nat.blt a a with
      | false => rfl
      | true => have := Nat.le_of_ble_eq_true hq; omega
    rw [e]
    simp
  · have e : Nat.blt a b = false := by
      cases hq : Nat.blt a b with
      | false => rfl
      | true => have := Nat.le_of_ble_eq_true hq; omega
    have e2 : Nat.blt b a = true := Nat.ble_eq_true_of_le h
    rw [e, e2, Int.sign_eq_neg_one_of_neg (by omega)]
    show ((a - 1 : Nat) : Int) = _
    omega
set_option maxRecDepth 6000 in
theorem xtw_le (a b : Nat) : xtw a b ≤ max a b := by
  have := xtw_int a b
  rcases Nat.lt_trichotomy a b with h | h | h
  · rw [Int.sign_eq_one_of_pos (by omega)] at this; omega
  · subst h; simp at this; omega
  · rw [Int.sign_eq_neg_one_of_neg (by omega)] at this; omega
set_option maxRecDepth 6000 in
theorem xsignum {D : Nat} {x : Int32} {ph : pm_H} (h1 : -64 ≤ x.toInt) (h2 : x.toInt ≤ 64) : ∃ v ph', pm_Rd kK false (D + 1) 304 [.int x] ph (v, ph', 0, 0) ∧ (∃ z : Int32, v = some (.int z) ∧ ph' = ph ∧ z.toInt = Int.sign x.toInt) := by
  refine xRd_mk (nl := 1) rfl rfl ?_
  show xGT kK D 304 _ (0, [some (.int x)], [], ph, 0, 0)
  refine gt_load (v := .int x) (n := 1) (ykc_304 (e := (2, .iload_n kF0, 0)) rfl) rfl rfl ?_
  refine gt_push (v := .int 31) (n := 2) (ykc_304 (e := (1, .bipush 31, 0)) rfl) rfl rfl ?_
  refine gt_alu (ykc_304 (e := (0, .ishr, 0)) rfl) rfl rfl ?_
  refine gt_load (v := .int x) (n := 1) (ykc_304 (e := (2, .iload_n kF0, 0)) rfl) rfl rfl ?_
  refine gt_alu (ykc_304 (e := (0, .ineg, 0)) rfl) rfl rfl ?_
  refine gt_push (v := .int 31) (n := 2) (ykc_304 (e := (1, .bipush 31, 0)) rfl) rfl rfl ?_
  refine gt_alu (ykc_304 (e := (0, .iushr, 0)) rfl) rfl rfl ?_
  refine gt_alu (st' := [.int (xsgn x)]) (ykc_304 (e := (0, .ior, 0)) rfl) rfl rfl ?_
  refine gt_ret (v := some (.int (xsgn x))) (ykc_304 (e := (7, .ireturn, 0)) rfl) rfl ?_
  exact ⟨_, rfl, rfl, xsgn_ok h1 h2⟩

set_option maxRecDepth 6000 in
theorem xclear_loop {m : Int} {w D Wn gn qa qb fuel : Nat} {f g W : Int32} {ph : pm_H} {Q : Option Value → pm_H → Prop} (hP : xH xX kK m w ph) (hW : xget ph 170 4 = some (.int W)) (hWn : W.toInt = (Wn : Int)) (hW0 : 3 ≤ Wn) (hW1 : Wn ≤ 7) (hgn : g.toInt = (gn : Int)) (hg1 : gn ≤ 48) (egr : g.toInt / W.toInt = (qa : Int)) (egc : g.toInt % W.toInt = (qb : Int)) (bgr : qa ≤ 16) (bgc : qb < Wn) (hQ : ∀ z : Int32, 0 ≤ z.toInt → z.toInt ≤ 1 → Q (some (.int z)) ph) : ∀ (rn cn : Nat) (r c q : Int32), xwk Wn gn qa qb fuel rn cn = true → r.toInt = (rn : Int) → c.toInt = (cn : Int) → rn ≤ 16 → cn < Wn → 0 ≤ q.toInt → q.toInt ≤ 1 → xGT kK (D + 1) 223 Q (21, [some (.ref 170), some (.int f), some (.int g), some (.int r), some (.int c), some (.int q), some (.int (Int32.ofInt 1))], [], ph, 0, 0) := by
  induction fuel with
  | zero => intro rn cn r c q h; cases h
  | succ fuel ih =>
    intro rn cn r c q h hr hc hrn hcn hq hq1
    unfold xwk at h
    have hr1 : (rn : Int) + Int.sign ((qa : Int) - (rn : Int)) = (xtw rn (qa) : Int) := (xtw_int _ _).symm
    have hc1 : (cn : Int) + Int.sign ((qb : Int) - (cn : Int)) = (xtw cn (qb) : Int) := (xtw_int _ _).symm
    have br := xtw_le rn (qa)
    have bc := xtw_le cn (qb)
    have bm : Wn * xtw rn (qa) ≤ 7 * 16 := Nat.mul_le_mul hW1 (by omega)
    refine gt_load (v := .int (Int32.ofInt 1)) (n := 2) (ykc_223 (e := (2, .iload 6, 0)) rfl) rfl rfl ?_
    refine gt_zeq_f (ykc_223 (e := (4, .ifCond .eq 91, 114)) rfl) (by decide) rfl ?_
    refine gt_load (v := .int r) (n := 1) (ykc_223 (e := (2, .iload_n kF3, 0)) rfl) rfl rfl ?_
    refine gt_load (v := .int g) (n := 1) (ykc_223 (e := (2, .iload_n kF2, 0)) rfl) rfl rfl ?_
    refine gt_load (v := .ref 170) (n := 1) (ykc_223 (e := (2, .aload_n kF0, 0)) rfl) rfl rfl ?_
    refine gt_gfk (v := .int W) (ykc_223 (e := (5, .getfield 27, 0)) rfl) rfl hP hW rfl ?_
    obtain ⟨gr, e_gr, h_gr⟩ : ∃ zq : Int32, g / W = zq ∧ zq.toInt = (qa : Int) := ⟨_, rfl, by rw [ti_div (by omega) (by omega), egr]⟩
    refine gt_alu (st' := [.int gr, .int r]) (ykc_223 (e := (0, .idiv, 0)) rfl) (by rw [← e_gr]; exact (xv_idiv g W _ (by omega))) rfl ?_
    refine gt_load (v := .int r) (n := 1) (ykc_223 (e := (2, .iload_n kF3, 0)) rfl) rfl rfl ?_
    obtain ⟨dr, e_dr, h_dr⟩ : ∃ zq : Int32, gr - r = zq ∧ zq.toInt = (qa : Int) - (rn : Int) := ⟨_, rfl, by rw [ti_sub (by rw [h_gr]; omega) (by rw [h_gr]; omega), h_gr, hr]⟩
    refine gt_alu (st' := [.int dr, .int r]) (ykc_223 (e := (0, .isub, 0)) rfl) (by rw [← e_dr]; exact rfl) rfl ?_
    refine gt_cs (n := 1) (as := [.int dr]) (r := [.int r]) (ykc_223 (e := (6, .invokestatic 279, 0)) rfl) rfl rfl rfl rfl (xsignum (D := D) (by rw [h_dr]; omega) (by rw [h_dr]; omega)) rfl (fun vv ph1 hv => ?_)
    obtain ⟨sr, e9, e8, sr_s⟩ := hv; subst e9; have e7 := e8.symm; subst e7
    change xGT kK (D + 1) 223 Q (38, [some (.ref 170), some (.int f), some (.int g), some (.int r), some (.int c), some (.int q), some (.int (Int32.ofInt 1))], [.int sr, .int r], ph, 0, 0)
    obtain ⟨r1, e_r1, h_r1⟩ : ∃ zq : Int32, r + sr = zq ∧ zq.toInt = (xtw rn (qa) : Int) := ⟨_, rfl, by rw [ti_add (by rw [sr_s, h_dr, hr, hr1]; omega) (by rw [sr_s, h_dr, hr, hr1]; omega), sr_s, h_dr, hr, hr1]⟩
    refine gt_alu (st' := [.int r1]) (ykc_223 (e := (0, .iadd, 0)) rfl) (by rw [← e_r1]; exact rfl) rfl ?_
    refine gt_store (L' := [some (.ref 170), some (.int f), some (.int g), some (.int r1), some (.int c), some (.int q), some (.int (Int32.ofInt 1))]) (st' := []) (n := 1) (ykc_223 (e := (3, .istore_n kF3, 0)) rfl) rfl rfl ?_
    refine gt_load (v := .int c) (n := 2) (ykc_223 (e := (2, .iload 4, 0)) rfl) rfl rfl ?_
    refine gt_load (v := .int g) (n := 1) (ykc_223 (e := (2, .iload_n kF2, 0)) rfl) rfl rfl ?_
    refine gt_load (v := .ref 170) (n := 1) (ykc_223 (e := (2, .aload_n kF0, 0)) rfl) rfl rfl ?_
    refine gt_gfk (v := .int W) (ykc_223 (e := (5, .getfield 27, 0)) rfl) rfl hP hW rfl ?_
    obtain ⟨gc, e_gc, h_gc⟩ : ∃ zq : Int32, g - g / W * W = zq ∧ zq.toInt = (qb : Int) := ⟨_, rfl, by rw [ti_rem (by omega) (by omega), egc]⟩
    refine gt_alu (st' := [.int gc, .int c]) (ykc_223 (e := (0, .irem, 0)) rfl) (by rw [← e_gc]; exact (xv_irem g W _ (by omega))) rfl ?_
    refine gt_load (v := .int c) (n := 2) (ykc_223 (e := (2, .iload 4, 0)) rfl) rfl rfl ?_
    obtain ⟨dc, e_dc, h_dc⟩ : ∃ zq : Int32, gc - c = zq ∧ zq.toInt = (qb : Int) - (cn : Int) := ⟨_, rfl, by rw [ti_sub (by rw [h_gc]; omega) (by rw [h_gc]; omega), h_gc, hc]⟩
    refine gt_alu (st' := [.int dc, .int c]) (ykc_223 (e := (0, .isub, 0)) rfl) (by rw [← e_dc]; exact rfl) rfl ?_
    refine gt_cs (n := 1) (as := [.int dc]) (r := [.int c]) (ykc_223 (e := (6, .invokestatic 279, 0)) rfl) rfl rfl rfl rfl (xsignum (D := D) (by rw [h_dc]; omega) (by rw [h_dc]; omega)) rfl (fun vv ph2 hv => ?_)
    obtain ⟨sc, e9, e8, sc_s⟩ := hv; subst e9; have e7 := e8.symm; subst e7
    change xGT kK (D + 1) 223 Q (54, [some (.ref 170), some (.int f), some (.int g), some (.int r1), some (.int c), some (.int q), some (.int (Int32.ofInt 1))], [.int sc, .int c], ph, 0, 0)
    obtain ⟨c1, e_c1, h_c1⟩ : ∃ zq : Int32, c + sc = zq ∧ zq.toInt = (xtw cn (qb) : Int) := ⟨_, rfl, by rw [ti_add (by rw [sc_s, h_dc, hc, hc1]; omega) (by rw [sc_s, h_dc, hc, hc1]; omega), sc_s, h_dc, hc, hc1]⟩
    refine gt_alu (st' := [.int c1]) (ykc_223 (e := (0, .iadd, 0)) rfl) (by rw [← e_c1]; exact rfl) rfl ?_
    refine gt_store (L' := [some (.ref 170), some (.int f), some (.int g), some (.int r1), some (.int c1), some (.int q), some (.int (Int32.ofInt 1))]) (st' := []) (n := 2) (ykc_223 (e := (3, .istore 4, 0)) rfl) rfl rfl ?_
    refine gt_load (v := .ref 170) (n := 1) (ykc_223 (e := (2, .aload_n kF0, 0)) rfl) rfl rfl ?_
    refine gt_gfk (v := .int W) (ykc_223 (e := (5, .getfield 27, 0)) rfl) rfl hP hW rfl ?_
    refine gt_load (v := .int r1) (n := 1) (ykc_223 (e := (2, .iload_n kF3, 0)) rfl) rfl rfl ?_
    obtain ⟨p1, e_p1, h_p1⟩ : ∃ zq : Int32, W * r1 = zq ∧ zq.toInt = (Wn * xtw rn (qa) : Int) := ⟨_, rfl, by rw [ti_mul (by rw [h_r1, hWn]; omega) (by rw [h_r1, hWn]; omega), h_r1, hWn]⟩
    refine gt_alu (st' := [.int p1]) (ykc_223 (e := (0, .imul, 0)) rfl) (by rw [← e_p1]; exact rfl) rfl ?_
    refine gt_load (v := .int c1) (n := 2) (ykc_223 (e := (2, .iload 4, 0)) rfl) rfl rfl ?_
    obtain ⟨i1, e_i1, h_i1⟩ : ∃ zq : Int32, p1 + c1 = zq ∧ zq.toInt = ((Wn * xtw rn (qa) + xtw cn (qb) : Nat) : Int) := ⟨_, rfl, by rw [ti_add (by rw [h_p1, h_c1]; omega) (by rw [h_p1, h_c1]; omega), h_p1, h_c1]; push_cast; omega⟩
    refine gt_alu (st' := [.int i1]) (ykc_223 (e := (0, .iadd, 0)) rfl) (by rw [← e_i1]; exact rfl) rfl ?_
    refine gt_load (v := .int g) (n := 1) (ykc_223 (e := (2, .iload_n kF2, 0)) rfl) rfl rfl ?_
    cases he : Nat.beq (Wn * xtw rn (qa) + xtw cn (qb)) gn with
    | true =>
      have e1 := Nat.eq_of_beq_eq_true he
      refine gt_ieq_t (ykc_223 (e := (4, .if_icmp .eq 7, 74)) rfl) (by rw [h_i1, hgn, e1]) ?_
      refine gt_alu (st' := [.int (Int32.ofInt 0)]) (ykc_223 (e := (0, .iconst 0, 0)) rfl) rfl rfl ?_
      refine gt_store (L' := [some (.ref 170), some (.int f), some (.int g), some (.int r1), some (.int c1), some (.int q), some (.int (Int32.ofInt 0))]) (st' := []) (n := 2) (ykc_223 (e := (3, .istore 6, 0)) rfl) rfl rfl ?_
      by_cases hq0 : q.toInt = 0
      · refine gt_load (v := .int q) (n := 2) (ykc_223 (e := (2, .iload 5, 0)) rfl) rfl rfl ?_
        refine gt_zeq_t (ykc_223 (e := (4, .ifCond .eq 29, 108)) rfl) hq0 ?_
        refine gt_alu (st' := [.int (Int32.ofInt 0)]) (ykc_223 (e := (0, .iconst 0, 0)) rfl) rfl rfl ?_
        refine gt_store (L' := [some (.ref 170), some (.int f), some (.int g), some (.int r1), some (.int c1), some (.int (Int32.ofInt 0)), some (.int (Int32.ofInt 0))]) (st' := []) (n := 2) (ykc_223 (e := (3, .istore 5, 0)) rfl) rfl rfl ?_
        refine gt_br (pc' := 21) (st' := []) (ykc_223 (e := (4, .goto (-90), 21)) rfl) rfl ?_
        refine gt_load (v := .int (Int32.ofInt 0)) (n := 2) (ykc_223 (e := (2, .iload 6, 0)) rfl) rfl rfl ?_
        refine gt_zeq_t (ykc_223 (e := (4, .ifCond .eq 91, 114)) rfl) (by decide) ?_
        refine gt_load (v := .int (Int32.ofInt 0)) (n := 2) (ykc_223 (e := (2, .iload 5, 0)) rfl) rfl rfl ?_
        refine gt_ret (ykc_223 (e := (7, .ireturn, 0)) rfl) (xretz (by decide) (by decide)) ?_
        exact hQ _ (by decide) (by decide)
      · refine gt_load (v := .int q) (n := 2) (ykc_223 (e := (2, .iload 5, 0)) rfl) rfl rfl ?_
        refine gt_zeq_f (ykc_223 (e := (4, .ifCond .eq 29, 108)) rfl) (by omega) rfl ?_
        refine gt_load (v := .int (Int32.ofInt 0)) (n := 2) (ykc_223 (e := (2, .iload 6, 0)) rfl) rfl rfl ?_
        refine gt_zeq_t (ykc_223 (e := (4, .ifCond .eq 20, 104)) rfl) (by decide) ?_
        refine gt_alu (st' := [.int (Int32.ofInt 1)]) (ykc_223 (e := (0, .iconst 1, 0)) rfl) rfl rfl ?_
        refine gt_br (pc' := 109) (st' := [.int (Int32.ofInt 1)]) (ykc_223 (e := (4, .goto 4, 109)) rfl) rfl ?_
        refine gt_store (L' := [some (.ref 170), some (.int f), some (.int g), some (.int r1), some (.int c1), some (.int (Int32.ofInt 1)), some (.int (Int32.ofInt 0))]) (st' := []) (n := 2) (ykc_223 (e := (3, .istore 5, 0)) rfl) rfl rfl ?_
        refine gt_br (pc' := 21) (st' := []) (ykc_223 (e := (4, .goto (-90), 21)) rfl) rfl ?_
        refine gt_load (v := .int (Int32.ofInt 0)) (n := 2) (ykc_223 (e := (2, .iload 6, 0)) rfl) rfl rfl ?_
        refine gt_zeq_t (ykc_223 (e := (4, .ifCond .eq 91, 114)) rfl) (by decide) ?_
        refine gt_load (v := .int (Int32.ofInt 1)) (n := 2) (ykc_223 (e := (2, .iload 5, 0)) rfl) rfl rfl ?_
        refine gt_ret (ykc_223 (e := (7, .ireturn, 0)) rfl) rfl ?_
        exact hQ _ (by decide) (by decide)
    | false =>
      rw [he] at h
      simp only [cond_false] at h
      obtain ⟨hlt, hwk2⟩ := x_and h
      have hlt : Wn * xtw rn (qa) + xtw cn (qb) < 49 := Nat.le_of_ble_eq_true hlt
      have hne : Wn * xtw rn (qa) + xtw cn (qb) ≠ gn := fun e => by
        rw [e] at he
        have : Nat.beq gn gn = true := by simp
        rw [this] at he
        cases he
      refine gt_ieq_f (ykc_223 (e := (4, .if_icmp .eq 7, 74)) rfl) (by rw [h_i1, hgn]; omega) rfl ?_
      refine gt_alu (st' := [.int (Int32.ofInt 1)]) (ykc_223 (e := (0, .iconst 1, 0)) rfl) rfl rfl ?_
      refine gt_br (pc' := 75) (st' := [.int (Int32.ofInt 1)]) (ykc_223 (e := (4, .goto 4, 75)) rfl) rfl ?_
      refine gt_store (L' := [some (.ref 170), some (.int f), some (.int g), some (.int r1), some (.int c1), some (.int q), some (.int (Int32.ofInt 1))]) (st' := []) (n := 2) (ykc_223 (e := (3, .istore 6, 0)) rfl) rfl rfl ?_
      by_cases hq0 : q.toInt = 0
      · refine gt_load (v := .int q) (n := 2) (ykc_223 (e := (2, .iload 5, 0)) rfl) rfl rfl ?_
        refine gt_zeq_t (ykc_223 (e := (4, .ifCond .eq 29, 108)) rfl) hq0 ?_
        refine gt_alu (st' := [.int (Int32.ofInt 0)]) (ykc_223 (e := (0, .iconst 0, 0)) rfl) rfl rfl ?_
        refine gt_store (L' := [some (.ref 170), some (.int f), some (.int g), some (.int r1), some (.int c1), some (.int (Int32.ofInt 0)), some (.int (Int32.ofInt 1))]) (st' := []) (n := 2) (ykc_223 (e := (3, .istore 5, 0)) rfl) rfl rfl ?_
        refine gt_br (pc' := 21) (st' := []) (ykc_223 (e := (4, .goto (-90), 21)) rfl) rfl ?_
        exact ih (xtw rn (qa)) (xtw cn (qb)) r1 c1 _ hwk2 h_r1 h_c1 (by omega) (by omega) (by decide) (by decide)
      · refine gt_load (v := .int q) (n := 2) (ykc_223 (e := (2, .iload 5, 0)) rfl) rfl rfl ?_
        refine gt_zeq_f (ykc_223 (e := (4, .ifCond .eq 29, 108)) rfl) (by omega) rfl ?_
        refine gt_load (v := .int (Int32.ofInt 1)) (n := 2) (ykc_223 (e := (2, .iload 6, 0)) rfl) rfl rfl ?_
        refine gt_zeq_f (ykc_223 (e := (4, .ifCond .eq 20, 104)) rfl) (by decide) rfl ?_
        refine gt_load (v := .ref 170) (n := 1) (ykc_223 (e := (2, .aload_n kF0, 0)) rfl) rfl rfl ?_
        refine gt_gfr (A := 172) (ykc_223 (e := (5, .getfield 33, 0)) rfl) rfl hP rfl rfl rfl ?_
        refine gt_load (v := .ref 170) (n := 1) (ykc_223 (e := (2, .aload_n kF0, 0)) rfl) rfl rfl ?_
        refine gt_gfk (v := .int W) (ykc_223 (e := (5, .getfield 27, 0)) rfl) rfl hP hW rfl ?_
        refine gt_load (v := .int r1) (n := 1) (ykc_223 (e := (2, .iload_n kF3, 0)) rfl) rfl rfl ?_
        obtain ⟨p2, e_p2, h_p2⟩ : ∃ zq : Int32, W * r1 = zq ∧ zq.toInt = (Wn * xtw rn (qa) : Int) := ⟨_, rfl, by rw [ti_mul (by rw [h_r1, hWn]; omega) (by rw [h_r1, hWn]; omega), h_r1, hWn]⟩
        refine gt_alu (st' := [.int p2, .ref 172]) (ykc_223 (e := (0, .imul, 0)) rfl) (by rw [← e_p2]; exact rfl) rfl ?_
        refine gt_load (v := .int c1) (n := 2) (ykc_223 (e := (2, .iload 4, 0)) rfl) rfl rfl ?_
        obtain ⟨i2, e_i2, h_i2⟩ : ∃ zq : Int32, p2 + c1 = zq ∧ zq.toInt = ((Wn * xtw rn (qa) + xtw cn (qb) : Nat) : Int) := ⟨_, rfl, by rw [ti_add (by rw [h_p2, h_c1]; omega) (by rw [h_p2, h_c1]; omega), h_p2, h_c1]; push_cast; omega⟩
        refine gt_alu (st' := [.int i2, .ref 172]) (ykc_223 (e := (0, .iadd, 0)) rfl) (by rw [← e_i2]; exact rfl) rfl ?_
        refine gt_bal (A := 172) (ykc_223 (e := (5, .baload, 0)) rfl) hP rfl rfl (by rw [h_i2]; omega) (by rw [h_i2]; omega) rfl (fun rk g_rk b0_rk b1_rk => ?_)
        by_cases hrk : rk.toInt = 0
        · refine gt_zne_f (ykc_223 (e := (4, .ifCond .ne 7, 108)) rfl) hrk rfl ?_
          refine gt_alu (st' := [.int (Int32.ofInt 1)]) (ykc_223 (e := (0, .iconst 1, 0)) rfl) rfl rfl ?_
          refine gt_br (pc' := 109) (st' := [.int (Int32.ofInt 1)]) (ykc_223 (e := (4, .goto 4, 109)) rfl) rfl ?_
          refine gt_store (L' := [some (.ref 170), some (.int f), some (.int g), some (.int r1), some (.int c1), some (.int (Int32.ofInt 1)), some (.int (Int32.ofInt 1))]) (st' := []) (n := 2) (ykc_223 (e := (3, .istore 5, 0)) rfl) rfl rfl ?_
          refine gt_br (pc' := 21) (st' := []) (ykc_223 (e := (4, .goto (-90), 21)) rfl) rfl ?_
          exact ih (xtw rn (qa)) (xtw cn (qb)) r1 c1 _ hwk2 h_r1 h_c1 (by omega) (by omega) (by decide) (by decide)
        · refine gt_zne_t (ykc_223 (e := (4, .ifCond .ne 7, 108)) rfl) hrk ?_
          refine gt_alu (st' := [.int (Int32.ofInt 0)]) (ykc_223 (e := (0, .iconst 0, 0)) rfl) rfl rfl ?_
          refine gt_store (L' := [some (.ref 170), some (.int f), some (.int g), some (.int r1), some (.int c1), some (.int (Int32.ofInt 0)), some (.int (Int32.ofInt 1))]) (st' := []) (n := 2) (ykc_223 (e := (3, .istore 5, 0)) rfl) rfl rfl ?_
          refine gt_br (pc' := 21) (st' := []) (ykc_223 (e := (4, .goto (-90), 21)) rfl) rfl ?_
          exact ih (xtw rn (qa)) (xtw cn (qb)) r1 c1 _ hwk2 h_r1 h_c1 (by omega) (by omega) (by decide) (by decide)
set_option maxRecDepth 6000 in
theorem xclear_run {m : Int} {w D Wn fn gn : Nat} {f g W : Int32} {ph : pm_H} (hP : xH xX kK m w ph) (hW : xget ph 170 4 = some (.int W)) (hWn : W.toInt = (Wn : Int)) (hW0 : 3 ≤ Wn) (hW1 : Wn ≤ 7) (hfn : f.toInt = (fn : Int)) (hf1 : fn ≤ 48) (hgn : g.toInt = (gn : Int)) (hg1 : gn ≤ 48) (hwk : xwk Wn gn (gn / Wn) (gn % Wn) 17 (fn / Wn) (fn % Wn) = true) : ∃ v ph', pm_Rd kK false (D + 1 + 1) 223 [.ref 170, .int f, .int g] ph (v, ph', 0, 0) ∧ (∃ z : Int32, v = some (.int z) ∧ 0 ≤ z.toInt ∧ z.toInt ≤ 1 ∧ ph' = ph) := by
  have bq : ∀ k : Nat, k ≤ 48 → k / Wn ≤ 16 ∧ k % Wn < Wn := fun k hk => by
    have h1 : k / Wn ≤ k / 3 := Nat.div_le_div_left hW0 (by decide)
    exact ⟨by omega, Nat.mod_lt _ (by omega)⟩
  refine xRd_mk (nl := 7) rfl rfl ?_
  show xGT kK (D + 1) 223 _ (0, [some (.ref 170), some (.int f), some (.int g), none, none, none, none], [], ph, 0, 0)
  refine gt_load (v := .int f) (n := 1) (ykc_223 (e := (2, .iload_n kF1, 0)) rfl) rfl rfl ?_
  refine gt_load (v := .ref 170) (n := 1) (ykc_223 (e := (2, .aload_n kF0, 0)) rfl) rfl rfl ?_
  refine gt_gfk (v := .int W) (ykc_223 (e := (5, .getfield 27, 0)) rfl) rfl hP hW rfl ?_
  obtain ⟨r, e_r, h_r⟩ : ∃ zq : Int32, f / W = zq ∧ zq.toInt = ((fn / Wn : Nat) : Int) := ⟨_, rfl, by rw [ti_div (by omega) (by omega), hfn, hWn]; exact (Int.natCast_ediv fn Wn).symm⟩
  refine gt_alu (st' := [.int r]) (ykc_223 (e := (0, .idiv, 0)) rfl) (by rw [← e_r]; exact (xv_idiv f W _ (by omega))) rfl ?_
  refine gt_store (L' := [some (.ref 170), some (.int f), some (.int g), some (.int r), none, none, none]) (st' := []) (n := 1) (ykc_223 (e := (3, .istore_n kF3, 0)) rfl) rfl rfl ?_
  refine gt_load (v := .int f) (n := 1) (ykc_223 (e := (2, .iload_n kF1, 0)) rfl) rfl rfl ?_
  refine gt_load (v := .ref 170) (n := 1) (ykc_223 (e := (2, .aload_n kF0, 0)) rfl) rfl rfl ?_
  refine gt_gfk (v := .int W) (ykc_223 (e := (5, .getfield 27, 0)) rfl) rfl hP hW rfl ?_
  obtain ⟨c, e_c, h_c⟩ : ∃ zq : Int32, f - f / W * W = zq ∧ zq.toInt = ((fn % Wn : Nat) : Int) := ⟨_, rfl, by rw [ti_rem (by omega) (by omega), hfn, hWn]; exact (Int.natCast_emod fn Wn).symm⟩
  refine gt_alu (st' := [.int c]) (ykc_223 (e := (0, .irem, 0)) rfl) (by rw [← e_c]; exact (xv_irem f W _ (by omega))) rfl ?_
  refine gt_store (L' := [some (.ref 170), some (.int f), some (.int g), some (.int r), some (.int c), none, none]) (st' := []) (n := 2) (ykc_223 (e := (3, .istore 4, 0)) rfl) rfl rfl ?_
  refine gt_alu (st' := [.int (Int32.ofInt 1)]) (ykc_223 (e := (0, .iconst 1, 0)) rfl) rfl rfl ?_
  refine gt_store (L' := [some (.ref 170), some (.int f), some (.int g), some (.int r), some (.int c), some (.int (Int32.ofInt 1)), none]) (st' := []) (n := 2) (ykc_223 (e := (3, .istore 5, 0)) rfl) rfl rfl ?_
  refine gt_alu (st' := [.int (Int32.ofInt 1)]) (ykc_223 (e := (0, .iconst 1, 0)) rfl) rfl rfl ?_
  refine gt_store (L' := [some (.ref 170), some (.int f), some (.int g), some (.int r), some (.int c), some (.int (Int32.ofInt 1)), some (.int (Int32.ofInt 1))]) (st' := []) (n := 2) (ykc_223 (e := (3, .istore 6, 0)) rfl) rfl rfl ?_
  exact xclear_loop hP hW hWn hW0 hW1 hgn hg1 (by rw [hgn, hWn]; exact (Int.natCast_ediv gn Wn).symm) (by rw [hgn, hWn]; exact (Int.natCast_emod gn Wn).symm) (bq gn hg1).1 (bq gn hg1).2 (fun z h0 h1 => ⟨z, rfl, h0, h1, rfl⟩) _ _ r c _ hwk h_r h_c (bq fn hf1).1 (bq fn hf1).2 (by decide) (by decide)
set_option maxRecDepth 6000 in
theorem xwk_A : (List.range 5).all (fun W => (List.range 48).all (fun g => (List.range 49).all (fun f => xwk (W + 3) g (g / (W + 3)) (g % (W + 3)) 17 (f / (W + 3)) (f % (W + 3))))) = true := by decide +kernel
set_option maxRecDepth 6000 in
theorem xwk_B : (List.range 49).all (fun f => xwk 7 48 (48 / 7) (48 % 7) 17 (f / 7) (f % 7)) = true := by decide +kernel
set_option maxRecDepth 6000 in
theorem xwk_C : (List.range 49).all (fun f => xwk 5 48 (48 / 5) (48 % 5) 17 (f / 5) (f % 5)) = true := by decide +kernel
set_option maxRecDepth 6000 in
theorem xwk_D : [45, 46].all (fun f => xwk 3 48 (48 / 3) (48 % 3) 17 (f / 3) (f % 3)) = true := by decide +kernel
set_option maxRecDepth 6000 in
theorem xwk_E : [44, 45].all (fun f => xwk 4 48 (48 / 4) (48 % 4) 17 (f / 4) (f % 4)) = true := by decide +kernel
set_option maxRecDepth 6000 in
theorem xwk_F : [42, 43].all (fun f => xwk 6 48 (48 / 6) (48 % 6) 17 (f / 6) (f % 6)) = true := by decide +kernel
set_option maxRecDepth 6000 in
/-- where the walk is safe, as numbers -/
theorem xclear_con {E : pm_H → Prop} {l1 h1 l2 h2 : Int} {fp : List (Nat × xh)} (b1 : 0 ≤ l1) (b2 : h1 ≤ 48) (b3 : 0 ≤ l2) (b4 : h2 ≤ 48) (hwk : ∀ (Wn fn gn : Nat), 3 ≤ Wn → Wn ≤ 7 → l1 ≤ fn → (fn : Int) ≤ h1 → l2 ≤ gn → (gn : Int) ≤ h2 → (fp = [] ∨ ∃ c : Int, fp = [(696324, .inl (c, c))] ∧ (Wn : Int) = c) → xwk Wn gn (gn / Wn) (gn % Wn) 17 (fn / Wn) (fn % Wn) = true) (hfp : fp = [] ∨ ∃ c : Int, fp = [(696324, .inl (c, c))]) : xcon xX kK E 5 223 [.inr (.inr (.inl 0)), .inl (l1, h1), .inl (l2, h2)] fp 0 (some (.inl ((Int.ofNat 0), (Int.ofNat 1)))) [] := by
  intro D' hD' m hm h0m vs ph hv hf hP g9
  obtain ⟨D, rfl⟩ : ∃ D, D' = D + 1 + 1 := ⟨D' - 2, by omega⟩
  match vs, hv with
  | [v1, v2, v3], ⟨q1, ⟨f, e2, f0, f1⟩, ⟨g, e3, g0, g1⟩, _⟩ =>
  have e1 := xaO hP (A := 170) rfl q1
  subst e1 e2 e3
  obtain ⟨W, hW, W0, W1⟩ := xM_fi (k := 4) hP rfl
  have W0 : 3 ≤ W.toInt := W0
  have W1 : W.toInt ≤ 7 := W1
  obtain ⟨Wn, hWn⟩ : ∃ n : Nat, W.toInt = (n : Int) := ⟨W.toInt.toNat, by omega⟩
  obtain ⟨fn, hfn⟩ : ∃ n : Nat, f.toInt = (n : Int) := ⟨f.toInt.toNat, by omega⟩
  obtain ⟨gn, hgn⟩ : ∃ n : Nat, g.toInt = (n : Int) := ⟨g.toInt.toNat, by omega⟩
  have hcol : fp = [] ∨ ∃ c : Int, fp = [(696324, .inl (c, c))] ∧ (Wn : Int) = c := by
    rcases hfp with e | ⟨c, e⟩
    · exact Or.inl e
    · refine Or.inr ⟨c, e, ?_⟩
      obtain ⟨-, -, v, h1, x, e9, h2, h3⟩ := hf 696324 (.inl (c, c)) (by rw [e]; exact List.mem_cons_self)
      subst e9
      have h1 : xget ph 170 4 = some (.int x) := h1
      have := xget_int hW h1
      subst this
      have h2 : c ≤ W.toInt := h2
      have h3 : W.toInt ≤ c := h3
      omega
  obtain ⟨v, ph', k1, z, e, z0, z1, e2⟩ := xclear_run (D := D) hP hW hWn (by omega) (by omega) hfn (by omega) hgn (by omega) (hwk Wn fn gn (by omega) (by omega) (by omega) (by omega) (by omega) (by omega) hcol)
  subst e2
  exact ⟨v, ph', k1, hP, g9, ⟨_, e, z, rfl, z0, z1⟩, xF0⟩
set_option maxRecDepth 6000 in
theorem xclear_0 {E : pm_H → Prop} : xcon xX kK E 5 223 [.inr (.inr (.inl 0)), .inl ((Int.ofNat 0), (Int.ofNat 48)), .inl ((Int.ofNat 0), (Int.ofNat 47))] [] 0 (some (.inl ((Int.ofNat 0), (Int.ofNat 1)))) [] := xclear_con (by decide) (by decide) (by decide) (by decide) (fun Wn fn gn w0 w1 f0 f1 g0 g1 _ => by
  have f1 : (fn : Int) ≤ 48 := f1
  have g1 : (gn : Int) ≤ 47 := g1
  obtain ⟨k, rfl⟩ : ∃ k, Wn = k + 3 := ⟨Wn - 3, by omega⟩
  exact List.all_eq_true.mp (List.all_eq_true.mp (List.all_eq_true.mp xwk_A k (List.mem_range.mpr (by omega))) gn (List.mem_range.mpr (by omega))) fn (List.mem_range.mpr (by omega))) (Or.inl rfl)
set_option maxRecDepth 6000 in
theorem xclear_W {fp : List (Nat × xh)} {c : Int} {Wn : Nat} (h : fp = [] ∨ ∃ c : Int, fp = [(696324, .inl (c, c))] ∧ (Wn : Int) = c) (e : fp = [(696324, .inl (c, c))]) : (Wn : Int) = c := by
  rcases h with h | ⟨c2, h, h2⟩
  · rw [e] at h; cases h
  · rw [e] at h; cases h; exact h2
set_option maxRecDepth 6000 in
theorem xclear_1 {E : pm_H → Prop} : xcon xX kK E 5 223 [.inr (.inr (.inl 0)), .inl ((Int.ofNat 0), (Int.ofNat 48)), .inl ((Int.ofNat 0), (Int.ofNat 48))] [(696324, .inl ((Int.ofNat 7), (Int.ofNat 7)))] 0 (some (.inl ((Int.ofNat 0), (Int.ofNat 1)))) [] := xclear_con (by decide) (by decide) (by decide) (by decide) (fun Wn fn gn w0 w1 f0 f1 g0 g1 hc => by
  have f1 : (fn : Int) ≤ 48 := f1
  have g1 : (gn : Int) ≤ 48 := g1
  have hc : (Wn : Int) = 7 := xclear_W hc rfl
  have : Wn = 7 := by omega
  subst this
  rcases (show gn ≤ 47 ∨ gn = 48 by omega) with h | h
  · exact List.all_eq_true.mp (List.all_eq_true.mp (List.all_eq_true.mp xwk_A 4 (List.mem_range.mpr (by omega))) gn (List.mem_range.mpr (by omega))) fn (List.mem_range.mpr (by omega))
  · subst h
    exact List.all_eq_true.mp xwk_B fn (List.mem_range.mpr (by omega))) (Or.inr ⟨_, rfl⟩)
set_option maxRecDepth 6000 in
theorem xclear_2 {E : pm_H → Prop} : xcon xX kK E 5 223 [.inr (.inr (.inl 0)), .inl ((Int.ofNat 0), (Int.ofNat 48)), .inl ((Int.ofNat 48), (Int.ofNat 48))] [(696324, .inl ((Int.ofNat 5), (Int.ofNat 5)))] 0 (some (.inl ((Int.ofNat 0), (Int.ofNat 1)))) [] := xclear_con (by decide) (by decide) (by decide) (by decide) (fun Wn fn gn w0 w1 f0 f1 g0 g1 hc => by
  have f1 : (fn : Int) ≤ 48 := f1
  have g0 : (48 : Int) ≤ gn := g0
  have g1 : (gn : Int) ≤ 48 := g1
  have hc : (Wn : Int) = 5 := xclear_W hc rfl
  have : Wn = 5 := by omega
  have h : gn = 48 := by omega
  subst this h
  exact List.all_eq_true.mp xwk_C fn (List.mem_range.mpr (by omega))) (Or.inr ⟨_, rfl⟩)

set_option maxRecDepth 6000 in
theorem xclear_3 {E : pm_H → Prop} : xcon xX kK E 5 223 [.inr (.inr (.inl 0)), .inl ((Int.ofNat 45), (Int.ofNat 46)), .inl ((Int.ofNat 48), (Int.ofNat 48))] [(696324, .inl ((Int.ofNat 3), (Int.ofNat 3)))] 0 (some (.inl ((Int.ofNat 0), (Int.ofNat 1)))) [] := xclear_con (by decide) (by decide) (by decide) (by decide) (fun Wn fn gn w0 w1 f0 f1 g0 g1 hc => by
  have f0 : (45 : Int) ≤ fn := f0
  have f1 : (fn : Int) ≤ 46 := f1
  have g0 : (48 : Int) ≤ gn := g0
  have g1 : (gn : Int) ≤ 48 := g1
  have hc : (Wn : Int) = 3 := xclear_W hc rfl
  have : Wn = 3 := by omega
  have h : gn = 48 := by omega
  subst this h
  rcases (show fn = 45 ∨ fn = 46 by omega) with h | h <;> subst h
  · exact List.all_eq_true.mp xwk_D 45 (by decide)
  · exact List.all_eq_true.mp xwk_D 46 (by decide)) (Or.inr ⟨_, rfl⟩)

set_option maxRecDepth 6000 in
theorem xclear_4 {E : pm_H → Prop} : xcon xX kK E 5 223 [.inr (.inr (.inl 0)), .inl ((Int.ofNat 44), (Int.ofNat 45)), .inl ((Int.ofNat 48), (Int.ofNat 48))] [(696324, .inl ((Int.ofNat 4), (Int.ofNat 4)))] 0 (some (.inl ((Int.ofNat 0), (Int.ofNat 1)))) [] := xclear_con (by decide) (by decide) (by decide) (by decide) (fun Wn fn gn w0 w1 f0 f1 g0 g1 hc => by
  have f0 : (44 : Int) ≤ fn := f0
  have f1 : (fn : Int) ≤ 45 := f1
  have g0 : (48 : Int) ≤ gn := g0
  have g1 : (gn : Int) ≤ 48 := g1
  have hc : (Wn : Int) = 4 := xclear_W hc rfl
  have : Wn = 4 := by omega
  have h : gn = 48 := by omega
  subst this h
  rcases (show fn = 44 ∨ fn = 45 by omega) with h | h <;> subst h
  · exact List.all_eq_true.mp xwk_E 44 (by decide)
  · exact List.all_eq_true.mp xwk_E 45 (by decide)) (Or.inr ⟨_, rfl⟩)

set_option maxRecDepth 6000 in
theorem xclear_5 {E : pm_H → Prop} : xcon xX kK E 5 223 [.inr (.inr (.inl 0)), .inl ((Int.ofNat 42), (Int.ofNat 43)), .inl ((Int.ofNat 48), (Int.ofNat 48))] [(696324, .inl ((Int.ofNat 6), (Int.ofNat 6)))] 0 (some (.inl ((Int.ofNat 0), (Int.ofNat 1)))) [] := xclear_con (by decide) (by decide) (by decide) (by decide) (fun Wn fn gn w0 w1 f0 f1 g0 g1 hc => by
  have f0 : (42 : Int) ≤ fn := f0
  have f1 : (fn : Int) ≤ 43 := f1
  have g0 : (48 : Int) ≤ gn := g0
  have g1 : (gn : Int) ≤ 48 := g1
  have hc : (Wn : Int) = 6 := xclear_W hc rfl
  have : Wn = 6 := by omega
  have h : gn = 48 := by omega
  subst this h
  rcases (show fn = 42 ∨ fn = 43 by omega) with h | h <;> subst h
  · exact List.all_eq_true.mp xwk_F 42 (by decide)
  · exact List.all_eq_true.mp xwk_F 43 (by decide)) (Or.inr ⟨_, rfl⟩)

