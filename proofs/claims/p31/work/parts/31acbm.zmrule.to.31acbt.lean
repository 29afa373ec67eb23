/-! joined: 31acbm.zmrule.lean.txt 31acbn.zrule.lean.txt 31acbo.zlight.lean.txt 31acbp.zplan.lean.txt 31acbq.zmacts.lean.txt 31acbr.zdoes.lean.txt 31acbs.zacr.lean.txt 31acbt.zday.lean.txt -/
section
/-! the reference reads a RULE, by W; printed by wip/z/z1i_mrule.py -/
def zMD (D j : Nat) (as : List Value) (ph : pm_H) (P : Option Value → pm_H → Prop) : Prop := ∀ r, pm_Rd kK false D j as ph r → P r.1 r.2.1
theorem zMD_mk {D j : Nat} {as : List Value} {ph : pm_H} {P : Option Value → pm_H → Prop} (h : ∀ n, zW n D j P 0 (pm_sl as ++ List.replicate ((pm_sig kK j).2.1 - (pm_sl as).length) none) [] ph) : zMD (D + 1) j as ph P := fun r hr => by
  obtain ⟨-, n, hn⟩ := hr
  exact h n n (Nat.le_refl n) 0 0 r hn
theorem w_cvD {n D j pc pc' aux na fi ci A : Nat} {Q : Option Value → pm_H → Prop} {L : List (Option Value)} {st r as : List Value} {ph : pm_H} {j' : Nat} {P : Option Value → pm_H → Prop} (hc : pm_code kK j pc = some (6, .invokevirtual fi, aux)) (hl : pm_lnk kK (pm_own kK j) fi = some (2, j', na, .ref ci)) (hd : st.drop na = .ref A :: r) (ha : .ref A :: (st.take na).reverse = as) (hp : pc + 3 = pc') (hz : zMD D j' as ph P) (kk : ∀ v ph', P v ph' → zW n D j Q pc' L (v.toList ++ r) ph') : zW n D j Q pc L st ph := fun k hk cs ss r9 hr => by
  subst hp ha
  cases k with
  | zero => exact hr.elim
  | succ k =>
    rw [pm_Tn] at hr
    unfold pm_step at hr
    simp only [hc] at hr
    cases hm : pm_inv kK (pm_own kK j) (.invokevirtual fi) st ph with
    | none => simp only [hm] at hr
    | some q =>
      obtain ⟨j2, as2, r2⟩ := q
      simp only [hm] at hr
      obtain ⟨v, ph', c1, s1, h1, h2⟩ := hr
      unfold pm_inv at hm
      simp only [hl, hd] at hm
      cases hA : pm_at ph A with
      | none => simp only [hA] at hm; cases hm
      | some c =>
        simp only [hA] at hm
        cases c with
        | inl c => simp only at hm; cases hm
        | inr c =>
          obtain ⟨cj, fs⟩ := c
          simp only at hm
          have hm := zbif hm
          cases hm
          exact kk v ph' (hz _ h1) k (by omega) _ _ r9 h2
/-- the codes read so far -/
def zRc (ph : pm_H) (cs : List Nat) : Prop := zc ph 170 24 = some (.int (zn cs.length)) ∧ ∀ i c, cs[i]? = some c → zc ph 180 (cs.length - 1 - i) = some (.int (zn c)) ∧ c ≤ 3000
theorem zRc_F {A : List Nat} {L : List (Nat × Nat)} {p q : pm_H} {cs : List Nat} (f : zFr A L p q) (h1 : 170 ∉ A ∧ 180 ∉ A) (h2 : (170, 24) ∉ L ∧ ∀ i, (180, i) ∉ L) (h : zRc p cs) : zRc q cs := ⟨(f.1 _ _ h1.1 h2.1).trans h.1, fun i c hc => ⟨(f.1 _ _ h1.2 (h2.2 _)).trans (h.2 i c hc).1, (h.2 i c hc).2⟩⟩
theorem zRc_c {p q : pm_H} {cs : List Nat} {c : Nat} (h : zRc p cs) (h1 : zc q 170 24 = some (.int (zn (cs.length + 1)))) (h2 : zc q 180 cs.length = some (.int (zn c))) (h3 : ∀ i, i ≠ cs.length → zc q 180 i = zc p 180 i) (hc : c ≤ 3000) : zRc q (c :: cs) := by
  refine ⟨h1, fun i x hx => ?_⟩
  cases i with
  | zero =>
    cases hx
    exact ⟨by rw [show (c :: cs).length - 1 - 0 = cs.length by simp]; exact h2, hc⟩
  | succ i =>
    have hx : cs[i]? = some x := hx
    have hi := (List.getElem?_eq_some_iff.mp hx).1
    obtain ⟨g1, g2⟩ := h.2 i x hx
    refine ⟨?_, g2⟩
    rw [show (c :: cs).length - 1 - (i + 1) = cs.length - 1 - i by simp; omega, h3 _ (by omega)]
    exact g1
def zRF (p q : pm_H) : Prop := zFr [180] [(170, 15), (170, 17), (170, 24)] p q
def zRp (b ln : Nat) (t : Nat → Nat) (ph : pm_H) (a ns : Nat) (cs : List Nat) : Prop := zTm ph a b ln t ∧ zc ph 170 17 = some (.int (zn ns)) ∧ zRc ph cs
def zRq (b ln : Nat) (t : Nat → Nat) (m a ns : Nat) (cs : List Nat) (ph : pm_H) (v0 : Option Value) (q : pm_H) : Prop := zRF ph q ∧ ∃ f ok a2 cs2, zde b t f m a ns cs = some (ok, a2, cs2) ∧ v0 = some (.int (zI ok)) ∧ zTm q a2 b ln t ∧ zRc q cs2 ∧ (ok = true → zc q 170 17 = some (.int (zn ns))) ∧ a ≤ a2 ∧ cs2.length + a ≤ cs.length + a2
def zIHr (b ln : Nat) (t : Nat → Nat) (D : Nat) : Prop := (∀ (ph : pm_H) (a ns : Nat) (cs : List Nat), zSh ph → zRp b ln t ph a ns cs → ns ≤ 4 → cs.length ≤ a → zMD D 213 [.ref 170] ph (zRq b ln t 3 a ns cs ph)) ∧ ∀ (ph : pm_H) (r : Nat) (x : Int32) (a ns : Nat) (cs : List Nat), zSh ph → x.toInt = (r : Int) → r ≤ 3 → zRp b ln t ph a ns cs → ns ≤ 4 → cs.length ≤ a → zMD D 214 [.ref 170, .int x] ph (zRq b ln t r a ns cs ph)
theorem zRF_S {p q : pm_H} (f : zRF p q) (h : zSh p) : zSh q := zSh_F f (by decide +kernel) h
/-- the signs of a rank's operators -/
theorem zrk_a : (∀ k, k < 3 → zrk2 0 (zls [60, 62, 61] k) = true ∧ zop (zls [60, 62, 61] k) = 2000 + k) ∧ (∀ k, k < 2 → zrk2 1 (zls [43, 45] k) = true ∧ zop (zls [43, 45] k) = 2003 + k) ∧ ∀ k, k < 2 → zrk2 2 (zls [42, 47] k) = true ∧ zop (zls [42, 47] k) = 2005 + k := by decide
theorem zrk_c {c : Nat} : (zrk2 0 c = true → ∃ k, k < 3 ∧ zls [60, 62, 61] k = c) ∧ (zrk2 1 c = true → ∃ k, k < 2 ∧ zls [43, 45] k = c) ∧ (zrk2 2 c = true → ∃ k, k < 2 ∧ zls [42, 47] k = c) := by
  refine ⟨fun h => ?_, fun h => ?_, fun h => ?_⟩
  all_goals
    obtain ⟨h1, h2⟩ := of_decide_eq_true h
    unfold zop at h1 h2
    repeat' split at h1
    all_goals first | exact absurd rfl h1 | skip
    all_goals first | exact ⟨0, by decide, by subst_vars; rfl⟩ | exact ⟨1, by decide, by subst_vars; rfl⟩ | exact ⟨2, by decide, by subst_vars; rfl⟩ | (subst_vars; exact absurd h2 (by decide))
theorem zm_num3 {ph : pm_H} {a b ln : Nat} {t : Nat → Nat} (hS : zSh ph) (hT : zTm ph a b ln t) (hd : a < b) (hdg : zdi (t a) = true) : zM 199 [.ref 170, .int (Int32.ofInt 3)] ph (fun v0 q => zFr [] [(170, 15)] ph q ∧ v0 = some (.int (zn (znv t a (zdc b t a)))) ∧ zTm q (a + zdc b t a) b ln t ∧ znv t a (zdc b t a) < 1000 ∧ 1 ≤ zdc b t a) := by
  obtain ⟨Q, hQ⟩ : ∃ Q : Option Value → pm_H → Prop, Q = (fun v0 q => zFr [] [(170, 15)] ph q ∧ v0 = some (.int (zn (znv t a (zdc b t a)))) ∧ zTm q (a + zdc b t a) b ln t ∧ znv t a (zdc b t a) < 1000 ∧ 1 ≤ zdc b t a) := ⟨_, rfl⟩
  rw [← hQ]
  refine zM_mk fun n D => ?_
  show zW n D 199 Q 0 [some (.ref 170), some (.int (Int32.ofInt 3)), none, none] [] ph
  have c_0 : ((Int8.ofInt 10).toInt32).toInt = 10 := by decide
  have c_1 : ((Int8.ofInt 48).toInt32).toInt = 48 := by decide
  have c_2 : (Int32.ofInt (-1)).toInt = -1 := by decide
  have c_3 : (Int32.ofInt 0).toInt = 0 := by decide
  have c_4 : (Int32.ofInt 1).toInt = 1 := by decide
  have t3 : (Int32.ofInt 3).toInt = 3 := by decide
  have hT0 := hT
  have hd0 : 48 ≤ t a ∧ t a ≤ 57 := of_decide_eq_true hdg
  have e1 : znv t a 1 = t a - 48 := by show 10 * 0 + (t (a + 0) - 48) = _; rw [Nat.add_zero]; omega
  have e2 : znv t a 2 = 10 * znv t a 1 + (t (a + 1) - 48) := rfl
  have e3 : znv t a 3 = 10 * znv t a 2 + (t (a + 1 + 1) - 48) := rfl
  obtain ⟨ga, gb, hab, hbn, hn80, gt⟩ := hT
  have ta := znt (k := a) (by omega)
  have tb := znt (k := b) (by omega)
  refine w_load (pc' := 1) (v := .ref 170) (m := 1) (ykc_199 (e := (2, .aload_n kF0, 0)) rfl) rfl rfl ?_
  refine w_cv (as := [.ref 170]) (r := []) (ykc_199 (e := (6, .invokevirtual 171, 0)) rfl) rfl rfl rfl rfl (zm_isDigit hS hT0) (fun v1517 ph1518 hv => ?_)
  obtain ⟨rfl, rfl⟩ := hv
  show zW n D 199 Q 4 [some (.ref 170), some (.int (Int32.ofInt 3)), none, none] [.int (zI (decide (a < b ∧ 48 ≤ t a ∧ t a ≤ 57)))] ph
  refine w_bne (ykc_199 (e := (4, .ifCond .ne 5, 9)) rfl) rfl (fun b1519 => ?_) (fun q => absurd q (by rw [decide_eq_true (show a < b ∧ 48 ≤ t a ∧ t a ≤ 57 from ⟨hd, hd0⟩)]; decide))
  refine w_alu (pc' := 10) (st' := [.int (Int32.ofInt 0)]) (ykc_199 (e := (0, .iconst 0, 0)) rfl) rfl rfl ?_
  refine w_store (pc' := 11) (L' := [some (.ref 170), some (.int (Int32.ofInt 3)), some (.int (Int32.ofInt 0)), none]) (st' := []) (m := 1) (ykc_199 (e := (3, .istore_n kF2, 0)) rfl) rfl rfl ?_
  refine w_alu (pc' := 12) (st' := [.int (Int32.ofInt 0)]) (ykc_199 (e := (0, .iconst 0, 0)) rfl) rfl rfl ?_
  refine w_store (pc' := 13) (L' := [some (.ref 170), some (.int (Int32.ofInt 3)), some (.int (Int32.ofInt 0)), some (.int (Int32.ofInt 0))]) (st' := []) (m := 1) (ykc_199 (e := (3, .istore_n kF3, 0)) rfl) rfl rfl ?_
  refine w_load (pc' := 14) (v := .int (Int32.ofInt 0)) (m := 1) (ykc_199 (e := (2, .iload_n kF3, 0)) rfl) rfl rfl ?_
  refine w_load (pc' := 15) (v := .int (Int32.ofInt 3)) (m := 1) (ykc_199 (e := (2, .iload_n kF1, 0)) rfl) rfl rfl ?_
  refine w_ige (ykc_199 (e := (4, .if_icmp .ge 44, 59)) rfl) rfl (fun q => by exfalso; omega) (fun b1520 => ?_)
  refine w_load (pc' := 19) (v := .ref 170) (m := 1) (ykc_199 (e := (2, .aload_n kF0, 0)) rfl) rfl rfl ?_
  refine w_cv (as := [.ref 170]) (r := []) (ykc_199 (e := (6, .invokevirtual 171, 0)) rfl) rfl rfl rfl rfl (zm_isDigit hS hT0) (fun v1521 ph1522 hv => ?_)
  obtain ⟨rfl, rfl⟩ := hv
  show zW n D 199 Q 22 [some (.ref 170), some (.int (Int32.ofInt 3)), some (.int (Int32.ofInt 0)), some (.int (Int32.ofInt 0))] [.int (zI (decide (a < b ∧ 48 ≤ t a ∧ t a ≤ 57)))] ph
  refine w_beq (ykc_199 (e := (4, .ifCond .eq 37, 59)) rfl) rfl (fun q => absurd q (by rw [decide_eq_true (show a < b ∧ 48 ≤ t a ∧ t a ≤ 57 from ⟨hd, hd0⟩)]; decide)) (fun b1523 => ?_)
  refine w_push (pc' := 27) (v := .int ((Int8.ofInt 10).toInt32)) (m := 2) (ykc_199 (e := (1, .bipush 10, 0)) rfl) rfl rfl ?_
  refine w_load (pc' := 28) (v := .int (Int32.ofInt 0)) (m := 1) (ykc_199 (e := (2, .iload_n kF2, 0)) rfl) rfl rfl ?_
  have e1524 : ((Int8.ofInt 10).toInt32) * (Int32.ofInt 0) = zn (0) := zn_of (by rw [ti_mul (by rw [show ((Int8.ofInt 10).toInt32).toInt = (10 : Int) by omega, show (Int32.ofInt 0).toInt = (0 : Int) by omega]; omega) (by rw [show ((Int8.ofInt 10).toInt32).toInt = (10 : Int) by omega, show (Int32.ofInt 0).toInt = (0 : Int) by omega]; omega), show ((Int8.ofInt 10).toInt32).toInt = (10 : Int) by omega, show (Int32.ofInt 0).toInt = (0 : Int) by omega] <;> omega)
  have te1524 := znt (k := 0) (by omega)
  refine w_alu (pc' := 29) (st' := [.int (zn (0))]) (ykc_199 (e := (0, .imul, 0)) rfl) (by rw [← e1524]; rfl) rfl ?_
  refine w_load (pc' := 30) (v := .ref 170) (m := 1) (ykc_199 (e := (2, .aload_n kF0, 0)) rfl) rfl rfl ?_
  refine w_gf (pc' := 33) (v := .ref 176) (ykc_199 (e := (5, .getfield 47, 0)) rfl) rfl (zsg hS zs_170_13) rfl ?_
  refine w_load (pc' := 34) (v := .ref 170) (m := 1) (ykc_199 (e := (2, .aload_n kF0, 0)) rfl) rfl rfl ?_
  refine w_gf (pc' := 37) (v := .int (zn a)) (ykc_199 (e := (5, .getfield 139, 0)) rfl) rfl ga rfl ?_
  have q1525 := (gt a (by omega)).2
  have tq1525 := znt (k := t a) (by omega)
  refine w_ialk (pc' := 38) (k := a) (ykc_199 (e := (5, .iaload, 0)) rfl) (gt a (by omega)).1 (by omega) rfl ?_
  have e1526 : (zn (0)) + (zn (t a)) = zn (0 + (t a)) := (zaddN (a := 0) (b := t a) (znt (by omega)) (znt (by omega)) (by omega)) 
  have te1526 := znt (k := 0 + (t a)) (by omega)
  refine w_alu (pc' := 39) (st' := [.int (zn (0 + (t a)))]) (ykc_199 (e := (0, .iadd, 0)) rfl) (by rw [← e1526]; rfl) rfl ?_
  refine w_push (pc' := 41) (v := .int ((Int8.ofInt 48).toInt32)) (m := 2) (ykc_199 (e := (1, .bipush 48, 0)) rfl) rfl rfl ?_
  have e1527 : (zn (0 + (t a))) - ((Int8.ofInt 48).toInt32) = zn (znv t a 1) := zn_of (by have h8 := ti_sub (x := (zn (0 + (t a)))) (y := ((Int8.ofInt 48).toInt32)) (by omega) (by omega); omega)
  have te1527 := znt (k := znv t a 1) (by omega)
  refine w_alu (pc' := 42) (st' := [.int (zn (znv t a 1))]) (ykc_199 (e := (0, .isub, 0)) rfl) (by rw [← e1527]; rfl) rfl ?_
  refine w_store (pc' := 43) (L' := [some (.ref 170), some (.int (Int32.ofInt 3)), some (.int (zn (znv t a 1))), some (.int (Int32.ofInt 0))]) (st' := []) (m := 1) (ykc_199 (e := (3, .istore_n kF2, 0)) rfl) rfl rfl ?_
  refine w_load (pc' := 44) (v := .ref 170) (m := 1) (ykc_199 (e := (2, .aload_n kF0, 0)) rfl) rfl rfl ?_
  refine w_alu (pc' := 45) (st' := [.ref 170, .ref 170]) (ykc_199 (e := (0, .dup, 0)) rfl) rfl rfl ?_
  refine w_gf (pc' := 48) (v := .int (zn a)) (ykc_199 (e := (5, .getfield 139, 0)) rfl) rfl ga rfl ?_
  refine w_alu (pc' := 49) (st' := [.int (Int32.ofInt 1), .int (zn a), .ref 170]) (ykc_199 (e := (0, .iconst 1, 0)) rfl) rfl rfl ?_
  have e1528 : (zn a) + (Int32.ofInt 1) = zn (a + 1) := (zaddN (a := a) (b := 1) (znt (by omega)) c_4 (by omega)) 
  have te1528 := znt (k := a + 1) (by omega)
  refine w_alu (pc' := 50) (st' := [.int (zn (a + 1)), .ref 170]) (ykc_199 (e := (0, .iadd, 0)) rfl) (by rw [← e1528]; rfl) rfl ?_
  refine w_pf (pc' := 53) (ykc_199 (e := (5, .putfield 139, 0)) rfl) rfl rfl (fun ph1530 u1529 => ?_)
  have e1531 : (Int32.ofInt 0) + Int32.ofInt 1 = zn (0 + 1) := (zaddN (a := 0) (b := 1) c_3 c_4 (by omega))
  have te1531 := znt (k := 0 + 1) (by omega)
  refine w_store (pc' := 56) (L' := [some (.ref 170), some (.int (Int32.ofInt 3)), some (.int (zn (znv t a 1))), some (.int (zn (0 + 1)))]) (st' := []) (m := 3) (ykc_199 (e := (3, .iinc 3 1, 0)) rfl) (by rw [← e1531]; rfl) rfl ?_
  refine w_br (pc' := 13) (st' := []) (ykc_199 (e := (4, .goto (-43), 13)) rfl) rfl ?_
  refine w_load (pc' := 14) (v := .int (zn (0 + 1))) (m := 1) (ykc_199 (e := (2, .iload_n kF3, 0)) rfl) rfl rfl ?_
  refine w_load (pc' := 15) (v := .int (Int32.ofInt 3)) (m := 1) (ykc_199 (e := (2, .iload_n kF1, 0)) rfl) rfl rfl ?_
  refine w_ige (ykc_199 (e := (4, .if_icmp .ge 44, 59)) rfl) rfl (fun q => by exfalso; omega) (fun b1532 => ?_)
  refine w_load (pc' := 19) (v := .ref 170) (m := 1) (ykc_199 (e := (2, .aload_n kF0, 0)) rfl) rfl rfl ?_
  have hT1 := zTm_u u1529 (a' := a + 1) (by omega) hT0
  refine w_cv (as := [.ref 170]) (r := []) (ykc_199 (e := (6, .invokevirtual 171, 0)) rfl) rfl rfl rfl rfl (zm_isDigit (zSh_F ((zFr_st u1529 (Or.inr (by simp))) : zFr [] [(170, 15)] ph _) (by decide +kernel) hS) hT1) (fun v1533 ph1534 hv => ?_)
  obtain ⟨rfl, rfl⟩ := hv
  show zW n D 199 Q 22 [some (.ref 170), some (.int (Int32.ofInt 3)), some (.int (zn (znv t a 1))), some (.int (zn (0 + 1)))] [.int (zI (decide (a + 1 < b ∧ 48 ≤ t (a + 1) ∧ t (a + 1) ≤ 57)))] ph1530
  refine w_beq (ykc_199 (e := (4, .ifCond .eq 37, 59)) rfl) rfl (fun b1535 => ?_) (fun b1535 => ?_)
  · refine w_load (pc' := 60) (v := .int (zn (znv t a 1))) (m := 1) (ykc_199 (e := (2, .iload_n kF2, 0)) rfl) rfl rfl ?_
    refine w_ret (v := (some (.int (zn (znv t a 1))))) (ykc_199 (e := (7, .ireturn, 0)) rfl) (zr_v rfl) ?_
    rw [hQ]
    have hnn := of_decide_eq_false b1535
    have ez : zdc b t a = 1 := by unfold zdc; rw [if_neg (fun q => hnn ⟨q.1, of_decide_eq_true q.2⟩)]
    rw [ez]
    exact ⟨(zFr_st u1529 (Or.inr (by simp))), rfl, hT1, by omega, by decide⟩
  · refine w_push (pc' := 27) (v := .int ((Int8.ofInt 10).toInt32)) (m := 2) (ykc_199 (e := (1, .bipush 10, 0)) rfl) rfl rfl ?_
    have hdd1 := of_decide_eq_true b1535
    refine w_load (pc' := 28) (v := .int (zn (znv t a 1))) (m := 1) (ykc_199 (e := (2, .iload_n kF2, 0)) rfl) rfl rfl ?_
    have e1536 : ((Int8.ofInt 10).toInt32) * (zn (znv t a 1)) = zn (10 * (znv t a 1)) := zn_of (by rw [ti_mul (by rw [show ((Int8.ofInt 10).toInt32).toInt = (10 : Int) by omega, show (zn (znv t a 1)).toInt = ((znv t a 1 : Nat) : Int) by omega]; omega) (by rw [show ((Int8.ofInt 10).toInt32).toInt = (10 : Int) by omega, show (zn (znv t a 1)).toInt = ((znv t a 1 : Nat) : Int) by omega]; omega), show ((Int8.ofInt 10).toInt32).toInt = (10 : Int) by omega, show (zn (znv t a 1)).toInt = ((znv t a 1 : Nat) : Int) by omega] <;> omega)
    have te1536 := znt (k := 10 * (znv t a 1)) (by omega)
    refine w_alu (pc' := 29) (st' := [.int (zn (10 * (znv t a 1)))]) (ykc_199 (e := (0, .imul, 0)) rfl) (by rw [← e1536]; rfl) rfl ?_
    refine w_load (pc' := 30) (v := .ref 170) (m := 1) (ykc_199 (e := (2, .aload_n kF0, 0)) rfl) rfl rfl ?_
    refine w_gf (pc' := 33) (v := .ref 176) (ykc_199 (e := (5, .getfield 47, 0)) rfl) rfl ((u1529.2.1 170 13 (fun q => absurd q.2 (by decide))).trans (zsg hS zs_170_13)) rfl ?_
    refine w_load (pc' := 34) (v := .ref 170) (m := 1) (ykc_199 (e := (2, .aload_n kF0, 0)) rfl) rfl rfl ?_
    refine w_gf (pc' := 37) (v := .int (zn (a + 1))) (ykc_199 (e := (5, .getfield 139, 0)) rfl) rfl u1529.1 rfl ?_
    have q1537 := (gt (a + 1) (by omega)).2
    have tq1537 := znt (k := t (a + 1)) (by omega)
    refine w_ialk (pc' := 38) (k := a + 1) (ykc_199 (e := (5, .iaload, 0)) rfl) ((u1529.2.1 176 (a + 1) (fun q => absurd q.1 (by decide))).trans (gt (a + 1) (by omega)).1) (by omega) rfl ?_
    have e1538 : (zn (10 * (znv t a 1))) + (zn (t (a + 1))) = zn (10 * (znv t a 1) + (t (a + 1))) := (zaddN (a := 10 * (znv t a 1)) (b := t (a + 1)) (znt (by omega)) (znt (by omega)) (by omega)) 
    have te1538 := znt (k := 10 * (znv t a 1) + (t (a + 1))) (by omega)
    refine w_alu (pc' := 39) (st' := [.int (zn (10 * (znv t a 1) + (t (a + 1))))]) (ykc_199 (e := (0, .iadd, 0)) rfl) (by rw [← e1538]; rfl) rfl ?_
    refine w_push (pc' := 41) (v := .int ((Int8.ofInt 48).toInt32)) (m := 2) (ykc_199 (e := (1, .bipush 48, 0)) rfl) rfl rfl ?_
    have e1539 : (zn (10 * (znv t a 1) + (t (a + 1)))) - ((Int8.ofInt 48).toInt32) = zn (znv t a 2) := zn_of (by have h8 := ti_sub (x := (zn (10 * (znv t a 1) + (t (a + 1))))) (y := ((Int8.ofInt 48).toInt32)) (by omega) (by omega); omega)
    have te1539 := znt (k := znv t a 2) (by omega)
    refine w_alu (pc' := 42) (st' := [.int (zn (znv t a 2))]) (ykc_199 (e := (0, .isub, 0)) rfl) (by rw [← e1539]; rfl) rfl ?_
    refine w_store (pc' := 43) (L' := [some (.ref 170), some (.int (Int32.ofInt 3)), some (.int (zn (znv t a 2))), some (.int (zn (0 + 1)))]) (st' := []) (m := 1) (ykc_199 (e := (3, .istore_n kF2, 0)) rfl) rfl rfl ?_
    refine w_load (pc' := 44) (v := .ref 170) (m := 1) (ykc_199 (e := (2, .aload_n kF0, 0)) rfl) rfl rfl ?_
    refine w_alu (pc' := 45) (st' := [.ref 170, .ref 170]) (ykc_199 (e := (0, .dup, 0)) rfl) rfl rfl ?_
    refine w_gf (pc' := 48) (v := .int (zn (a + 1))) (ykc_199 (e := (5, .getfield 139, 0)) rfl) rfl u1529.1 rfl ?_
    refine w_alu (pc' := 49) (st' := [.int (Int32.ofInt 1), .int (zn (a + 1)), .ref 170]) (ykc_199 (e := (0, .iconst 1, 0)) rfl) rfl rfl ?_
    have e1540 : (zn (a + 1)) + (Int32.ofInt 1) = zn (a + 1 + 1) := (zaddN (a := a + 1) (b := 1) (znt (by omega)) c_4 (by omega)) 
    have te1540 := znt (k := a + 1 + 1) (by omega)
    refine w_alu (pc' := 50) (st' := [.int (zn (a + 1 + 1)), .ref 170]) (ykc_199 (e := (0, .iadd, 0)) rfl) (by rw [← e1540]; rfl) rfl ?_
    refine w_pf (pc' := 53) (ykc_199 (e := (5, .putfield 139, 0)) rfl) rfl rfl (fun ph1542 u1541 => ?_)
    have e1543 : (zn (0 + 1)) + Int32.ofInt 1 = zn (0 + 1 + 1) := (zaddN (a := 0 + 1) (b := 1) (znt (by omega)) c_4 (by omega))
    have te1543 := znt (k := 0 + 1 + 1) (by omega)
    refine w_store (pc' := 56) (L' := [some (.ref 170), some (.int (Int32.ofInt 3)), some (.int (zn (znv t a 2))), some (.int (zn (0 + 1 + 1)))]) (st' := []) (m := 3) (ykc_199 (e := (3, .iinc 3 1, 0)) rfl) (by rw [← e1543]; rfl) rfl ?_
    refine w_br (pc' := 13) (st' := []) (ykc_199 (e := (4, .goto (-43), 13)) rfl) rfl ?_
    refine w_load (pc' := 14) (v := .int (zn (0 + 1 + 1))) (m := 1) (ykc_199 (e := (2, .iload_n kF3, 0)) rfl) rfl rfl ?_
    refine w_load (pc' := 15) (v := .int (Int32.ofInt 3)) (m := 1) (ykc_199 (e := (2, .iload_n kF1, 0)) rfl) rfl rfl ?_
    refine w_ige (ykc_199 (e := (4, .if_icmp .ge 44, 59)) rfl) rfl (fun q => by exfalso; omega) (fun b1544 => ?_)
    refine w_load (pc' := 19) (v := .ref 170) (m := 1) (ykc_199 (e := (2, .aload_n kF0, 0)) rfl) rfl rfl ?_
    have hT2 := zTm_u u1541 (a' := a + 1 + 1) (by omega) hT1
    refine w_cv (as := [.ref 170]) (r := []) (ykc_199 (e := (6, .invokevirtual 171, 0)) rfl) rfl rfl rfl rfl (zm_isDigit (zSh_F ((zFr_trans (zFr_st u1529 (Or.inr (by simp))) (zFr_st u1541 (Or.inr (by simp)))) : zFr [] [(170, 15)] ph _) (by decide +kernel) hS) hT2) (fun v1545 ph1546 hv => ?_)
    obtain ⟨rfl, rfl⟩ := hv
    show zW n D 199 Q 22 [some (.ref 170), some (.int (Int32.ofInt 3)), some (.int (zn (znv t a 2))), some (.int (zn (0 + 1 + 1)))] [.int (zI (decide (a + 1 + 1 < b ∧ 48 ≤ t (a + 1 + 1) ∧ t (a + 1 + 1) ≤ 57)))] ph1542
    refine w_beq (ykc_199 (e := (4, .ifCond .eq 37, 59)) rfl) rfl (fun b1547 => ?_) (fun b1547 => ?_)
    · refine w_load (pc' := 60) (v := .int (zn (znv t a 2))) (m := 1) (ykc_199 (e := (2, .iload_n kF2, 0)) rfl) rfl rfl ?_
      refine w_ret (v := (some (.int (zn (znv t a 2))))) (ykc_199 (e := (7, .ireturn, 0)) rfl) (zr_v rfl) ?_
      rw [hQ]
      have hnn := of_decide_eq_false b1547
      have ez : zdc b t a = 2 := by unfold zdc; rw [if_pos ⟨hdd1.1, decide_eq_true hdd1.2⟩, if_neg (fun q => hnn ⟨q.1, of_decide_eq_true q.2⟩)]
      rw [ez]
      exact ⟨(zFr_trans (zFr_st u1529 (Or.inr (by simp))) (zFr_st u1541 (Or.inr (by simp)))), rfl, hT2, by omega, by decide⟩
    · refine w_push (pc' := 27) (v := .int ((Int8.ofInt 10).toInt32)) (m := 2) (ykc_199 (e := (1, .bipush 10, 0)) rfl) rfl rfl ?_
      have hdd2 := of_decide_eq_true b1547
      refine w_load (pc' := 28) (v := .int (zn (znv t a 2))) (m := 1) (ykc_199 (e := (2, .iload_n kF2, 0)) rfl) rfl rfl ?_
      have e1548 : ((Int8.ofInt 10).toInt32) * (zn (znv t a 2)) = zn (10 * (znv t a 2)) := zn_of (by rw [ti_mul (by rw [show ((Int8.ofInt 10).toInt32).toInt = (10 : Int) by omega, show (zn (znv t a 2)).toInt = ((znv t a 2 : Nat) : Int) by omega]; omega) (by rw [show ((Int8.ofInt 10).toInt32).toInt = (10 : Int) by omega, show (zn (znv t a 2)).toInt = ((znv t a 2 : Nat) : Int) by omega]; omega), show ((Int8.ofInt 10).toInt32).toInt = (10 : Int) by omega, show (zn (znv t a 2)).toInt = ((znv t a 2 : Nat) : Int) by omega] <;> omega)
      have te1548 := znt (k := 10 * (znv t a 2)) (by omega)
      refine w_alu (pc' := 29) (st' := [.int (zn (10 * (znv t a 2)))]) (ykc_199 (e := (0, .imul, 0)) rfl) (by rw [← e1548]; rfl) rfl ?_
      refine w_load (pc' := 30) (v := .ref 170) (m := 1) (ykc_199 (e := (2, .aload_n kF0, 0)) rfl) rfl rfl ?_
      refine w_gf (pc' := 33) (v := .ref 176) (ykc_199 (e := (5, .getfield 47, 0)) rfl) rfl ((u1541.2.1 170 13 (fun q => absurd q.2 (by decide))).trans ((u1529.2.1 170 13 (fun q => absurd q.2 (by decide))).trans (zsg hS zs_170_13))) rfl ?_
      refine w_load (pc' := 34) (v := .ref 170) (m := 1) (ykc_199 (e := (2, .aload_n kF0, 0)) rfl) rfl rfl ?_
      refine w_gf (pc' := 37) (v := .int (zn (a + 1 + 1))) (ykc_199 (e := (5, .getfield 139, 0)) rfl) rfl u1541.1 rfl ?_
      have q1549 := (gt (a + 1 + 1) (by omega)).2
      have tq1549 := znt (k := t (a + 1 + 1)) (by omega)
      refine w_ialk (pc' := 38) (k := a + 1 + 1) (ykc_199 (e := (5, .iaload, 0)) rfl) ((u1541.2.1 176 (a + 1 + 1) (fun q => absurd q.1 (by decide))).trans ((u1529.2.1 176 (a + 1 + 1) (fun q => absurd q.1 (by decide))).trans (gt (a + 1 + 1) (by omega)).1)) (by omega) rfl ?_
      have e1550 : (zn (10 * (znv t a 2))) + (zn (t (a + 1 + 1))) = zn (10 * (znv t a 2) + (t (a + 1 + 1))) := (zaddN (a := 10 * (znv t a 2)) (b := t (a + 1 + 1)) (znt (by omega)) (znt (by omega)) (by omega)) 
      have te1550 := znt (k := 10 * (znv t a 2) + (t (a + 1 + 1))) (by omega)
      refine w_alu (pc' := 39) (st' := [.int (zn (10 * (znv t a 2) + (t (a + 1 + 1))))]) (ykc_199 (e := (0, .iadd, 0)) rfl) (by rw [← e1550]; rfl) rfl ?_
      refine w_push (pc' := 41) (v := .int ((Int8.ofInt 48).toInt32)) (m := 2) (ykc_199 (e := (1, .bipush 48, 0)) rfl) rfl rfl ?_
      have e1551 : (zn (10 * (znv t a 2) + (t (a + 1 + 1)))) - ((Int8.ofInt 48).toInt32) = zn (znv t a 3) := zn_of (by have h8 := ti_sub (x := (zn (10 * (znv t a 2) + (t (a + 1 + 1))))) (y := ((Int8.ofInt 48).toInt32)) (by omega) (by omega); omega)
      have te1551 := znt (k := znv t a 3) (by omega)
      refine w_alu (pc' := 42) (st' := [.int (zn (znv t a 3))]) (ykc_199 (e := (0, .isub, 0)) rfl) (by rw [← e1551]; rfl) rfl ?_
      refine w_store (pc' := 43) (L' := [some (.ref 170), some (.int (Int32.ofInt 3)), some (.int (zn (znv t a 3))), some (.int (zn (0 + 1 + 1)))]) (st' := []) (m := 1) (ykc_199 (e := (3, .istore_n kF2, 0)) rfl) rfl rfl ?_
      refine w_load (pc' := 44) (v := .ref 170) (m := 1) (ykc_199 (e := (2, .aload_n kF0, 0)) rfl) rfl rfl ?_
      refine w_alu (pc' := 45) (st' := [.ref 170, .ref 170]) (ykc_199 (e := (0, .dup, 0)) rfl) rfl rfl ?_
      refine w_gf (pc' := 48) (v := .int (zn (a + 1 + 1))) (ykc_199 (e := (5, .getfield 139, 0)) rfl) rfl u1541.1 rfl ?_
      refine w_alu (pc' := 49) (st' := [.int (Int32.ofInt 1), .int (zn (a + 1 + 1)), .ref 170]) (ykc_199 (e := (0, .iconst 1, 0)) rfl) rfl rfl ?_
      have e1552 : (zn (a + 1 + 1)) + (Int32.ofInt 1) = zn (a + 1 + 1 + 1) := (zaddN (a := a + 1 + 1) (b := 1) (znt (by omega)) c_4 (by omega)) 
      have te1552 := znt (k := a + 1 + 1 + 1) (by omega)
      refine w_alu (pc' := 50) (st' := [.int (zn (a + 1 + 1 + 1)), .ref 170]) (ykc_199 (e := (0, .iadd, 0)) rfl) (by rw [← e1552]; rfl) rfl ?_
      refine w_pf (pc' := 53) (ykc_199 (e := (5, .putfield 139, 0)) rfl) rfl rfl (fun ph1554 u1553 => ?_)
      have e1555 : (zn (0 + 1 + 1)) + Int32.ofInt 1 = zn (0 + 1 + 1 + 1) := (zaddN (a := 0 + 1 + 1) (b := 1) (znt (by omega)) c_4 (by omega))
      have te1555 := znt (k := 0 + 1 + 1 + 1) (by omega)
      refine w_store (pc' := 56) (L' := [some (.ref 170), some (.int (Int32.ofInt 3)), some (.int (zn (znv t a 3))), some (.int (zn (0 + 1 + 1 + 1)))]) (st' := []) (m := 3) (ykc_199 (e := (3, .iinc 3 1, 0)) rfl) (by rw [← e1555]; rfl) rfl ?_
      refine w_br (pc' := 13) (st' := []) (ykc_199 (e := (4, .goto (-43), 13)) rfl) rfl ?_
      refine w_load (pc' := 14) (v := .int (zn (0 + 1 + 1 + 1))) (m := 1) (ykc_199 (e := (2, .iload_n kF3, 0)) rfl) rfl rfl ?_
      refine w_load (pc' := 15) (v := .int (Int32.ofInt 3)) (m := 1) (ykc_199 (e := (2, .iload_n kF1, 0)) rfl) rfl rfl ?_
      refine w_ige (ykc_199 (e := (4, .if_icmp .ge 44, 59)) rfl) rfl (fun b1556 => ?_) (fun q => by exfalso; omega)
      refine w_load (pc' := 60) (v := .int (zn (znv t a 3))) (m := 1) (ykc_199 (e := (2, .iload_n kF2, 0)) rfl) rfl rfl ?_
      refine w_ret (v := (some (.int (zn (znv t a 3))))) (ykc_199 (e := (7, .ireturn, 0)) rfl) (zr_v rfl) ?_
      rw [hQ]
      have ez : zdc b t a = 3 := by unfold zdc; rw [if_pos ⟨hdd1.1, decide_eq_true hdd1.2⟩, if_pos ⟨hdd2.1, decide_eq_true hdd2.2⟩]
      rw [ez]
      exact ⟨(zFr_trans (zFr_trans (zFr_st u1529 (Or.inr (by simp))) (zFr_st u1541 (Or.inr (by simp)))) (zFr_st u1553 (Or.inr (by simp)))), rfl, (zTm_u u1553 (a' := a + 1 + 1 + 1) (by omega) hT2), by omega, by decide⟩
theorem zm_codes {ph : pm_H} {cs : List Nat} {c : Nat} {x : Int32} (hS : zSh ph) (hR : zRc ph cs) (hx : x = zn c) (hc : c ≤ 3000) (hl : cs.length < 80) : zM 212 [.ref 170, .int x] ph (fun v0 q => v0 = none ∧ zFr [180] [(170, 24)] ph q ∧ zRc q (c :: cs)) := by
  obtain ⟨Q, hQ⟩ : ∃ Q : Option Value → pm_H → Prop, Q = (fun v0 q => v0 = none ∧ zFr [180] [(170, 24)] ph q ∧ zRc q (c :: cs)) := ⟨_, rfl⟩
  rw [← hQ]
  refine zM_mk fun n D => ?_
  show zW n D 212 Q 0 [some (.ref 170), some (.int x)] [] ph
  have c_0 : (Int32.ofInt 1).toInt = 1 := by decide
  have tl := znt (k := cs.length) (by omega)
  refine w_load (pc' := 1) (v := .ref 170) (m := 1) (ykc_212 (e := (2, .aload_n kF0, 0)) rfl) rfl rfl ?_
  refine w_gf (pc' := 4) (v := .ref 180) (ykc_212 (e := (5, .getfield 59, 0)) rfl) rfl (zsg hS zs_170_22) rfl ?_
  refine w_load (pc' := 5) (v := .ref 170) (m := 1) (ykc_212 (e := (2, .aload_n kF0, 0)) rfl) rfl rfl ?_
  refine w_gf (pc' := 8) (v := .int (zn cs.length)) (ykc_212 (e := (5, .getfield 227, 0)) rfl) rfl hR.1 rfl ?_
  refine w_load (pc' := 9) (v := .int x) (m := 1) (ykc_212 (e := (2, .iload_n kF1, 0)) rfl) rfl rfl ?_
  refine w_ias (pc' := 10) (k := cs.length) (ykc_212 (e := (5, .iastore, 0)) rfl) (by omega) rfl (fun ph1558 u1557 => ?_)
  refine w_load (pc' := 11) (v := .ref 170) (m := 1) (ykc_212 (e := (2, .aload_n kF0, 0)) rfl) rfl rfl ?_
  refine w_alu (pc' := 12) (st' := [.ref 170, .ref 170]) (ykc_212 (e := (0, .dup, 0)) rfl) rfl rfl ?_
  refine w_gf (pc' := 15) (v := .int (zn cs.length)) (ykc_212 (e := (5, .getfield 227, 0)) rfl) rfl ((u1557.2.1 170 24 (fun q => absurd q.1 (by decide))).trans hR.1) rfl ?_
  refine w_alu (pc' := 16) (st' := [.int (Int32.ofInt 1), .int (zn cs.length), .ref 170]) (ykc_212 (e := (0, .iconst 1, 0)) rfl) rfl rfl ?_
  have e1559 : (zn cs.length) + (Int32.ofInt 1) = zn (cs.length + 1) := (zaddN (a := cs.length) (b := 1) (znt (by omega)) c_0 (by omega)) 
  have te1559 := znt (k := cs.length + 1) (by omega)
  refine w_alu (pc' := 17) (st' := [.int (zn (cs.length + 1)), .ref 170]) (ykc_212 (e := (0, .iadd, 0)) rfl) (by rw [← e1559]; rfl) rfl ?_
  refine w_pf (pc' := 20) (ykc_212 (e := (5, .putfield 227, 0)) rfl) rfl rfl (fun ph1561 u1560 => ?_)
  refine w_ret (v := none) (ykc_212 (e := (7, .return_, 0)) rfl) (zr_v rfl) ?_
  rw [hQ]
  exact ⟨rfl, zFr_trans (zFr_st u1557 (Or.inl (by simp))) (zFr_st u1560 (Or.inr (by simp))), zRc_c hR u1560.1 ((u1560.2.1 180 _ (fun q => absurd q.1 (by decide))).trans (by rw [← hx]; exact u1557.1)) (fun i hi => (u1560.2.1 180 i (fun q => absurd q.1 (by decide))).trans (u1557.2.1 180 i (fun q => hi q.2))) hc⟩
theorem zlt_lsm : ∀ k, k < 8 → zlt (zls [98, 108, 107, 102, 114, 99, 110, 112] k) = k := by decide
theorem zlt_lsm2 {c : Nat} (h : zlt c < 8) : zls [98, 108, 107, 102, 114, 99, 110, 112] (zlt c) = c := by
  unfold zlt at h ⊢
  repeat' split
  all_goals first | (subst_vars; rfl) | (exfalso; simp_all)
theorem zm_askD {b ln : Nat} {t : Nat → Nat} {D : Nat} (ih : zIHr b ln t D) (hb40 : b ≤ 40) {ph : pm_H} {a ns : Nat} {cs : List Nat} (hS : zSh ph) (hp : zRp b ln t ph a ns cs) (hns : ns ≤ 4) (hl : cs.length ≤ a) : zMD (D + 1) 213 [.ref 170] ph (zRq b ln t 3 a ns cs ph) := by
  obtain ⟨Q, hQ⟩ : ∃ Q : Option Value → pm_H → Prop, Q = (zRq b ln t 3 a ns cs ph) := ⟨_, rfl⟩
  rw [← hQ]
  refine zMD_mk fun n => ?_
  show zW n D 213 Q 0 [some (.ref 170), none] [] ph
  have c_0 : ((Int16.ofInt 1000).toInt32).toInt = 1000 := by decide
  have c_1 : ((Int16.ofInt 3000).toInt32).toInt = 3000 := by decide
  have c_2 : ((Int8.ofInt 40).toInt32).toInt = 40 := by decide
  have c_3 : ((Int8.ofInt 41).toInt32).toInt = 41 := by decide
  have c_4 : ((Int8.ofInt 45).toInt32).toInt = 45 := by decide
  have c_5 : (Int32.ofInt 0).toInt = 0 := by decide
  have c_6 : (Int32.ofInt 1).toInt = 1 := by decide
  have c_7 : (Int32.ofInt 3).toInt = 3 := by decide
  have c_8 : (Int32.ofInt 4).toInt = 4 := by decide
  obtain ⟨hT, h17, hR⟩ := hp
  have hab := hT.2.2.1
  have tns := znt (k := ns) (by omega)
  refine w_load (pc' := 1) (v := .ref 170) (m := 1) (ykc_213 (e := (2, .aload_n kF0, 0)) rfl) rfl rfl ?_
  refine w_push (pc' := 3) (v := .int ((Int8.ofInt 45).toInt32)) (m := 2) (ykc_213 (e := (1, .bipush 45, 0)) rfl) rfl rfl ?_
  refine w_cv (as := [.ref 170, .int ((Int8.ofInt 45).toInt32)]) (r := []) (ykc_213 (e := (6, .invokevirtual 209, 0)) rfl) rfl rfl rfl rfl (zm_takes hS hT (c := 45) (by omega)) (fun v1562 ph1563 hv => ?_)
  rcases hv with ⟨f1, ⟨hm1, rfl, hTa⟩ | ⟨hm1, rfl, hTa⟩⟩
  · show zW n D 213 Q 6 [some (.ref 170), none] [.int (zI true)] ph1563
    refine w_beq (ykc_213 (e := (4, .ifCond .eq 17, 23)) rfl) rfl (fun q => absurd q (by decide)) (fun b1564 => ?_)
    refine w_load (pc' := 10) (v := .ref 170) (m := 1) (ykc_213 (e := (2, .aload_n kF0, 0)) rfl) rfl rfl ?_
    have h17a := (f1.1 170 17 (by decide) (by decide)).trans h17
    have hRa := zRc_F f1 (by simp) (by simp) hR
    refine w_cvD (as := [.ref 170]) (r := []) (ykc_213 (e := (6, .invokevirtual 230, 0)) rfl) rfl rfl rfl rfl (ih.1 _ (a + 1) ns cs (zSh_F f1 (by decide +kernel) hS) ⟨hTa, h17a, hRa⟩ hns (by omega)) (fun v1565 ph1566 hv => ?_)
    rcases hv with ⟨f2, f9, ok, a2, cs2, hz, rfl, hT2, hR2, h172, ha2, hl2⟩
    · have hb2 := hT2.2.2.1
      show zW n D 213 Q 13 [some (.ref 170), none] [.int (zI ok)] ph1566
      refine w_store (pc' := 14) (L' := [some (.ref 170), some (.int (zI ok))]) (st' := []) (m := 1) (ykc_213 (e := (3, .istore_n kF1, 0)) rfl) rfl rfl ?_
      refine w_load (pc' := 15) (v := .ref 170) (m := 1) (ykc_213 (e := (2, .aload_n kF0, 0)) rfl) rfl rfl ?_
      refine w_push (pc' := 18) (v := .int ((Int16.ofInt 3000).toInt32)) (m := 3) (ykc_213 (e := (1, .sipush 3000, 0)) rfl) rfl rfl ?_
      refine w_cv (as := [.ref 170, .int ((Int16.ofInt 3000).toInt32)]) (r := []) (ykc_213 (e := (6, .invokevirtual 233, 0)) rfl) rfl rfl rfl rfl (zm_codes (c := 3000) (zSh_F ((show zRF ph ph1566 from (zFr_trans (zFr_mono f1 (by simp) (by simp)) (zFr_mono f2 (by simp) (by simp))))) (by decide +kernel) hS) hR2 (by decide) (by decide) (by omega)) (fun v1567 ph1568 hv => ?_)
      obtain ⟨rfl, fc, hR3⟩ := hv
      show zW n D 213 Q 21 [some (.ref 170), some (.int (zI ok))] [] ph1568
      refine w_load (pc' := 22) (v := .int (zI ok)) (m := 1) (ykc_213 (e := (2, .iload_n kF1, 0)) rfl) rfl rfl ?_
      refine w_ret (v := (some (.int (zI ok)))) (ykc_213 (e := (7, .ireturn, 0)) rfl) zr_z ?_
      rw [hQ]
      refine ⟨(show zRF ph ph1568 from (zFr_trans (zFr_trans (zFr_mono f1 (by simp) (by simp)) (zFr_mono f2 (by simp) (by simp))) (zFr_mono fc (by simp) (by simp)))), f9 + 1, ok, a2, 3000 :: cs2, ?_, rfl, zTm_F fc (by simp) (by simp) (by simp) hT2, hR3, fun h => (fc.1 170 17 (by decide) (by decide)).trans (h172 h), by omega, by show cs2.length + 1 + a ≤ cs.length + a2; omega⟩
      show (if 3 = 3 then _ else _) = _
      rw [if_pos rfl, if_pos hm1, hz]
      rfl
    
  · show zW n D 213 Q 6 [some (.ref 170), none] [.int (zI false)] ph1563
    refine w_beq (ykc_213 (e := (4, .ifCond .eq 17, 23)) rfl) rfl (fun b1569 => ?_) (fun q => absurd q (by decide))
    refine w_load (pc' := 24) (v := .ref 170) (m := 1) (ykc_213 (e := (2, .aload_n kF0, 0)) rfl) rfl rfl ?_
    refine w_cv (as := [.ref 170]) (r := []) (ykc_213 (e := (6, .invokevirtual 171, 0)) rfl) rfl rfl rfl rfl (zm_isDigit (zSh_F f1 (by decide +kernel) hS) hTa) (fun v1570 ph1571 hv => ?_)
    obtain ⟨rfl, rfl⟩ := hv
    have hRa := zRc_F f1 (by simp) (by simp) hR
    have h17a := (f1.1 170 17 (by decide) (by decide)).trans h17
    show zW n D 213 Q 27 [some (.ref 170), none] [.int (zI (decide (a < b ∧ 48 ≤ t a ∧ t a ≤ 57)))] ph1563
    refine w_beq (ykc_213 (e := (4, .ifCond .eq 14, 41)) rfl) rfl (fun b1572 => ?_) (fun b1572 => ?_)
    · refine w_load (pc' := 42) (v := .ref 170) (m := 1) (ykc_213 (e := (2, .aload_n kF0, 0)) rfl) rfl rfl ?_
      refine w_push (pc' := 44) (v := .ref 1048628) (m := 2) (ykc_213 (e := (1, .ldc 237, 0)) rfl) rfl rfl ?_
      have hndg := of_decide_eq_false b1572
      have hnd2 : ¬ (a < b ∧ zdi (t a) = true) := fun q => hndg ⟨q.1, of_decide_eq_true q.2⟩
      refine w_cv (as := [.ref 170, .ref 1048628]) (r := []) (ykc_213 (e := (6, .invokevirtual 184, 0)) rfl) rfl rfl rfl rfl (zm_takesOf (zSh_F f1 (by decide +kernel) hS) hTa zstr_lets) (fun v1573 ph1574 hv => ?_)
      rcases hv with ⟨f2, ⟨k9, hk9, ha9, hc9, rfl, hT2⟩ | ⟨hn9, rfl, hT2⟩⟩
      · have e8 : zlt (t a) = k9 := by rw [hc9]; exact zlt_lsm k9 hk9
        have tk9 := znt (k := k9) (by omega)
        show zW n D 213 Q 47 [some (.ref 170), none] [.int (zn k9)] ph1574
        refine w_store (pc' := 48) (L' := [some (.ref 170), some (.int (zn k9))]) (st' := []) (m := 1) (ykc_213 (e := (3, .istore_n kF1, 0)) rfl) rfl rfl ?_
        refine w_load (pc' := 49) (v := .int (zn k9)) (m := 1) (ykc_213 (e := (2, .iload_n kF1, 0)) rfl) rfl rfl ?_
        refine w_zlt (ykc_213 (e := (4, .ifCond .lt 14, 63)) rfl) rfl (fun q => by exfalso; omega) (fun b1575 => ?_)
        refine w_load (pc' := 53) (v := .ref 170) (m := 1) (ykc_213 (e := (2, .aload_n kF0, 0)) rfl) rfl rfl ?_
        refine w_push (pc' := 56) (v := .int ((Int16.ofInt 1000).toInt32)) (m := 3) (ykc_213 (e := (1, .sipush 1000, 0)) rfl) rfl rfl ?_
        refine w_load (pc' := 57) (v := .int (zn k9)) (m := 1) (ykc_213 (e := (2, .iload_n kF1, 0)) rfl) rfl rfl ?_
        have e1576 : ((Int16.ofInt 1000).toInt32) + (zn k9) = zn (1000 + k9) := (zaddN (a := 1000) (b := k9) c_0 (znt (by omega)) (by omega)) 
        have te1576 := znt (k := 1000 + k9) (by omega)
        refine w_alu (pc' := 58) (st' := [.int (zn (1000 + k9)), .ref 170]) (ykc_213 (e := (0, .iadd, 0)) rfl) (by rw [← e1576]; rfl) rfl ?_
        refine w_cv (as := [.ref 170, .int (zn (1000 + k9))]) (r := []) (ykc_213 (e := (6, .invokevirtual 233, 0)) rfl) rfl rfl rfl rfl (zm_codes (c := 1000 + k9) (zSh_F ((show zRF ph ph1574 from (zFr_trans (zFr_mono f1 (by simp) (by simp)) (zFr_mono f2 (by simp) (by simp))))) (by decide +kernel) hS) (zRc_F f2 (by simp) (by simp) hRa) rfl (by omega) (by omega)) (fun v1577 ph1578 hv => ?_)
        obtain ⟨rfl, fc, hR3⟩ := hv
        show zW n D 213 Q 61 [some (.ref 170), some (.int (zn k9))] [] ph1578
        refine w_alu (pc' := 62) (st' := [.int (Int32.ofInt 1)]) (ykc_213 (e := (0, .iconst 1, 0)) rfl) rfl rfl ?_
        refine w_ret (v := (some (.int (Int32.ofInt 1)))) (ykc_213 (e := (7, .ireturn, 0)) rfl) zr_z ?_
        rw [hQ, zi1]
        refine ⟨(show zRF ph ph1578 from (zFr_trans (zFr_trans (zFr_mono f1 (by simp) (by simp)) (zFr_mono f2 (by simp) (by simp))) (zFr_mono fc (by simp) (by simp)))), 1, true, a + 1, (1000 + k9) :: cs, ?_, rfl, zTm_F fc (by simp) (by simp) (by simp) hT2, hR3, fun _ => (fc.1 170 17 (by decide) (by decide)).trans ((f2.1 170 17 (by decide) (by decide)).trans h17a), by omega, by show cs.length + 1 + a ≤ _; omega⟩
        show (if 3 = 3 then _ else _) = _
        rw [if_pos rfl, if_neg hm1, if_neg hnd2, if_pos ⟨ha9, by omega⟩, e8]
      · have tm1 : (Int32.ofInt (-1)).toInt = -1 := by decide
        have hnl : ¬ (a < b ∧ zlt (t a) < 8) := fun q => hn9 q.1 (zlt (t a)) q.2 (zlt_lsm2 q.2).symm
        show zW n D 213 Q 47 [some (.ref 170), none] [.int (Int32.ofInt (-1))] ph1574
        refine w_store (pc' := 48) (L' := [some (.ref 170), some (.int (Int32.ofInt (-1)))]) (st' := []) (m := 1) (ykc_213 (e := (3, .istore_n kF1, 0)) rfl) rfl rfl ?_
        refine w_load (pc' := 49) (v := .int (Int32.ofInt (-1))) (m := 1) (ykc_213 (e := (2, .iload_n kF1, 0)) rfl) rfl rfl ?_
        refine w_zlt (ykc_213 (e := (4, .ifCond .lt 14, 63)) rfl) rfl (fun b1579 => ?_) (fun q => by exfalso; omega)
        refine w_load (pc' := 64) (v := .ref 170) (m := 1) (ykc_213 (e := (2, .aload_n kF0, 0)) rfl) rfl rfl ?_
        refine w_gf (pc' := 67) (v := .int (zn ns)) (ykc_213 (e := (5, .getfield 142, 0)) rfl) rfl ((f2.1 170 17 (by decide) (by decide)).trans h17a) rfl ?_
        refine w_alu (pc' := 68) (st' := [.int (Int32.ofInt 4), .int (zn ns)]) (ykc_213 (e := (0, .iconst 4, 0)) rfl) rfl rfl ?_
        refine w_ieq (ykc_213 (e := (4, .if_icmp .eq 12, 80)) rfl) rfl (fun b1580 => ?_) (fun b1580 => ?_)
        · refine w_alu (pc' := 81) (st' := [.int (Int32.ofInt 0)]) (ykc_213 (e := (0, .iconst 0, 0)) rfl) rfl rfl ?_
          refine w_ret (v := (some (.int (Int32.ofInt 0)))) (ykc_213 (e := (7, .ireturn, 0)) rfl) zr_z ?_
          rw [hQ, zi0]
          refine ⟨(show zRF ph ph1574 from (zFr_trans (zFr_mono f1 (by simp) (by simp)) (zFr_mono f2 (by simp) (by simp)))), 1, false, a, cs, ?_, rfl, hT2, zRc_F f2 (by simp) (by simp) hRa, fun h => absurd h (by decide), Nat.le_refl _, Nat.le_refl _⟩
          show (if 3 = 3 then _ else _) = _
          rw [if_pos rfl, if_neg hm1, if_neg hnd2, if_neg hnl, if_neg (by omega)]
        · refine w_load (pc' := 72) (v := .ref 170) (m := 1) (ykc_213 (e := (2, .aload_n kF0, 0)) rfl) rfl rfl ?_
          refine w_push (pc' := 74) (v := .int ((Int8.ofInt 40).toInt32)) (m := 2) (ykc_213 (e := (1, .bipush 40, 0)) rfl) rfl rfl ?_
          refine w_cv (as := [.ref 170, .int ((Int8.ofInt 40).toInt32)]) (r := []) (ykc_213 (e := (6, .invokevirtual 209, 0)) rfl) rfl rfl rfl rfl (zm_takes (zSh_F ((show zRF ph ph1574 from (zFr_trans (zFr_mono f1 (by simp) (by simp)) (zFr_mono f2 (by simp) (by simp))))) (by decide +kernel) hS) hT2 (c := 40) (by omega)) (fun v1581 ph1582 hv => ?_)
          rcases hv with ⟨f3, ⟨hb1, rfl, hT3⟩ | ⟨hb1, rfl, hT3⟩⟩
          · show zW n D 213 Q 77 [some (.ref 170), some (.int (Int32.ofInt (-1)))] [.int (zI true)] ph1582
            refine w_bne (ykc_213 (e := (4, .ifCond .ne 5, 82)) rfl) rfl (fun b1583 => ?_) (fun q => absurd q (by decide))
            refine w_load (pc' := 83) (v := .ref 170) (m := 1) (ykc_213 (e := (2, .aload_n kF0, 0)) rfl) rfl rfl ?_
            refine w_alu (pc' := 84) (st' := [.ref 170, .ref 170]) (ykc_213 (e := (0, .dup, 0)) rfl) rfl rfl ?_
            refine w_gf (pc' := 87) (v := .int (zn ns)) (ykc_213 (e := (5, .getfield 142, 0)) rfl) rfl ((f3.1 170 17 (by decide) (by decide)).trans ((f2.1 170 17 (by decide) (by decide)).trans h17a)) rfl ?_
            refine w_alu (pc' := 88) (st' := [.int (Int32.ofInt 1), .int (zn ns), .ref 170]) (ykc_213 (e := (0, .iconst 1, 0)) rfl) rfl rfl ?_
            have e1584 : (zn ns) + (Int32.ofInt 1) = zn (ns + 1) := (zaddN (a := ns) (b := 1) (znt (by omega)) c_6 (by omega)) 
            have te1584 := znt (k := ns + 1) (by omega)
            refine w_alu (pc' := 89) (st' := [.int (zn (ns + 1)), .ref 170]) (ykc_213 (e := (0, .iadd, 0)) rfl) (by rw [← e1584]; rfl) rfl ?_
            refine w_pf (pc' := 92) (ykc_213 (e := (5, .putfield 142, 0)) rfl) rfl rfl (fun ph1586 u1585 => ?_)
            refine w_load (pc' := 93) (v := .ref 170) (m := 1) (ykc_213 (e := (2, .aload_n kF0, 0)) rfl) rfl rfl ?_
            refine w_alu (pc' := 94) (st' := [.int (Int32.ofInt 0), .ref 170]) (ykc_213 (e := (0, .iconst 0, 0)) rfl) rfl rfl ?_
            have fu : zFr [] [(170, 17)] _ ph1586 := zFr_st u1585 (Or.inr (by simp))
            have hT4 := zTm_F fu (by simp) (by simp) (by simp) hT3
            have hR4 := zRc_F fu (by simp) (by simp) (zRc_F f3 (by simp) (by simp) (zRc_F f2 (by simp) (by simp) hRa))
            refine w_cvD (as := [.ref 170, .int (Int32.ofInt 0)]) (r := []) (ykc_213 (e := (6, .invokevirtual 239, 0)) rfl) rfl rfl rfl rfl (ih.2 _ 0 _ (a + 1) (ns + 1) cs (zSh_F ((show zRF ph ph1586 from (zFr_trans (zFr_trans (zFr_trans (zFr_mono f1 (by simp) (by simp)) (zFr_mono f2 (by simp) (by simp))) (zFr_mono f3 (by simp) (by simp))) (zFr_st u1585 (Or.inr (by simp)))))) (by decide +kernel) hS) (by omega) (by decide) ⟨hT4, u1585.1, hR4⟩ (by omega) (by omega)) (fun v1587 ph1588 hv => ?_)
            rcases hv with ⟨f5, f9, ok, a2, cs2, hz, rfl, hT5, hR5, h175, ha2, hl2⟩
            · cases ok with
              | false =>
                show zW n D 213 Q 97 [some (.ref 170), some (.int (Int32.ofInt (-1)))] [.int (zI false)] ph1588
                refine w_beq (ykc_213 (e := (4, .ifCond .eq 12, 109)) rfl) rfl (fun b1589 => ?_) (fun q => absurd q (by decide))
                refine w_alu (pc' := 110) (st' := [.int (Int32.ofInt 0)]) (ykc_213 (e := (0, .iconst 0, 0)) rfl) rfl rfl ?_
                refine w_ret (v := (some (.int (Int32.ofInt 0)))) (ykc_213 (e := (7, .ireturn, 0)) rfl) zr_z ?_
                rw [hQ, zi0]
                refine ⟨(show zRF ph ph1588 from (zFr_trans (zFr_trans (zFr_trans (zFr_trans (zFr_mono f1 (by simp) (by simp)) (zFr_mono f2 (by simp) (by simp))) (zFr_mono f3 (by simp) (by simp))) (zFr_st u1585 (Or.inr (by simp)))) (zFr_mono f5 (by simp) (by simp)))), f9 + 1, false, a2, cs2, ?_, rfl, hT5, hR5, fun h => absurd h (by decide), by omega, by omega⟩
                show (if 3 = 3 then _ else _) = _
                rw [if_pos rfl, if_neg hm1, if_neg hnd2, if_neg hnl, if_pos ⟨by omega, hb1⟩, hz]
                show some (if false = true ∧ a2 < b ∧ t a2 = 41 then _ else _) = _
                rw [if_neg (fun q => absurd q.1 (by decide))]
              | true =>
                show zW n D 213 Q 97 [some (.ref 170), some (.int (Int32.ofInt (-1)))] [.int (zI true)] ph1588
                refine w_beq (ykc_213 (e := (4, .ifCond .eq 12, 109)) rfl) rfl (fun q => absurd q (by decide)) (fun b1590 => ?_)
                refine w_load (pc' := 101) (v := .ref 170) (m := 1) (ykc_213 (e := (2, .aload_n kF0, 0)) rfl) rfl rfl ?_
                refine w_push (pc' := 103) (v := .int ((Int8.ofInt 41).toInt32)) (m := 2) (ykc_213 (e := (1, .bipush 41, 0)) rfl) rfl rfl ?_
                have h175 := h175 rfl
                refine w_cv (as := [.ref 170, .int ((Int8.ofInt 41).toInt32)]) (r := []) (ykc_213 (e := (6, .invokevirtual 209, 0)) rfl) rfl rfl rfl rfl (zm_takes (zSh_F ((show zRF ph ph1588 from (zFr_trans (zFr_trans (zFr_trans (zFr_trans (zFr_mono f1 (by simp) (by simp)) (zFr_mono f2 (by simp) (by simp))) (zFr_mono f3 (by simp) (by simp))) (zFr_st u1585 (Or.inr (by simp)))) (zFr_mono f5 (by simp) (by simp))))) (by decide +kernel) hS) hT5 (c := 41) (by omega)) (fun v1591 ph1592 hv => ?_)
                rcases hv with ⟨f6, ⟨hb2, rfl, hT6⟩ | ⟨hb2, rfl, hT6⟩⟩
                · have tn1 := znt (k := ns + 1) (by omega)
                  show zW n D 213 Q 106 [some (.ref 170), some (.int (Int32.ofInt (-1)))] [.int (zI true)] ph1592
                  refine w_bne (ykc_213 (e := (4, .ifCond .ne 5, 111)) rfl) rfl (fun b1593 => ?_) (fun q => absurd q (by decide))
                  refine w_load (pc' := 112) (v := .ref 170) (m := 1) (ykc_213 (e := (2, .aload_n kF0, 0)) rfl) rfl rfl ?_
                  refine w_alu (pc' := 113) (st' := [.ref 170, .ref 170]) (ykc_213 (e := (0, .dup, 0)) rfl) rfl rfl ?_
                  refine w_gf (pc' := 116) (v := .int (zn (ns + 1))) (ykc_213 (e := (5, .getfield 142, 0)) rfl) rfl ((f6.1 170 17 (by decide) (by decide)).trans h175) rfl ?_
                  refine w_alu (pc' := 117) (st' := [.int (Int32.ofInt 1), .int (zn (ns + 1)), .ref 170]) (ykc_213 (e := (0, .iconst 1, 0)) rfl) rfl rfl ?_
                  have e1594 : (zn (ns + 1)) - (Int32.ofInt 1) = zn (ns) := zsubN (a := ns + 1) (b := 1) tn1 c_6 (by omega)
                  have te1594 := znt (k := ns) (by omega)
                  refine w_alu (pc' := 118) (st' := [.int (zn (ns)), .ref 170]) (ykc_213 (e := (0, .isub, 0)) rfl) (by show some ([.int ((zn (ns + 1)) - (Int32.ofInt 1)), .ref 170] : List Value) = _; rw [e1594]) rfl ?_
                  refine w_pf (pc' := 121) (ykc_213 (e := (5, .putfield 142, 0)) rfl) rfl rfl (fun ph1596 u1595 => ?_)
                  refine w_alu (pc' := 122) (st' := [.int (Int32.ofInt 1)]) (ykc_213 (e := (0, .iconst 1, 0)) rfl) rfl rfl ?_
                  refine w_ret (v := (some (.int (Int32.ofInt 1)))) (ykc_213 (e := (7, .ireturn, 0)) rfl) zr_z ?_
                  rw [hQ, zi1]
                  have fv : zFr [] [(170, 17)] _ ph1596 := zFr_st u1595 (Or.inr (by simp))
                  refine ⟨(show zRF ph ph1596 from (zFr_trans (zFr_trans (zFr_trans (zFr_trans (zFr_trans (zFr_trans (zFr_mono f1 (by simp) (by simp)) (zFr_mono f2 (by simp) (by simp))) (zFr_mono f3 (by simp) (by simp))) (zFr_st u1585 (Or.inr (by simp)))) (zFr_mono f5 (by simp) (by simp))) (zFr_mono f6 (by simp) (by simp))) (zFr_st u1595 (Or.inr (by simp))))), f9 + 1, true, a2 + 1, cs2, ?_, rfl, zTm_F fv (by simp) (by simp) (by simp) hT6, zRc_F fv (by simp) (by simp) (zRc_F f6 (by simp) (by simp) hR5), fun _ => u1595.1, by omega, by omega⟩
                  show (if 3 = 3 then _ else _) = _
                  rw [if_pos rfl, if_neg hm1, if_neg hnd2, if_neg hnl, if_pos ⟨by omega, hb1⟩, hz]
                  show some (if true = true ∧ a2 < b ∧ t a2 = 41 then _ else _) = _
                  rw [if_pos ⟨rfl, hb2⟩]
                · show zW n D 213 Q 106 [some (.ref 170), some (.int (Int32.ofInt (-1)))] [.int (zI false)] ph1592
                  refine w_bne (ykc_213 (e := (4, .ifCond .ne 5, 111)) rfl) rfl (fun q => absurd q (by decide)) (fun b1597 => ?_)
                  refine w_alu (pc' := 110) (st' := [.int (Int32.ofInt 0)]) (ykc_213 (e := (0, .iconst 0, 0)) rfl) rfl rfl ?_
                  refine w_ret (v := (some (.int (Int32.ofInt 0)))) (ykc_213 (e := (7, .ireturn, 0)) rfl) zr_z ?_
                  rw [hQ, zi0]
                  refine ⟨(show zRF ph ph1592 from (zFr_trans (zFr_trans (zFr_trans (zFr_trans (zFr_trans (zFr_mono f1 (by simp) (by simp)) (zFr_mono f2 (by simp) (by simp))) (zFr_mono f3 (by simp) (by simp))) (zFr_st u1585 (Or.inr (by simp)))) (zFr_mono f5 (by simp) (by simp))) (zFr_mono f6 (by simp) (by simp)))), f9 + 1, false, a2, cs2, ?_, rfl, hT6, zRc_F f6 (by simp) (by simp) hR5, fun h => absurd h (by decide), by omega, by omega⟩
                  show (if 3 = 3 then _ else _) = _
                  rw [if_pos rfl, if_neg hm1, if_neg hnd2, if_neg hnl, if_pos ⟨by omega, hb1⟩, hz]
                  show some (if true = true ∧ a2 < b ∧ t a2 = 41 then _ else _) = _
                  rw [if_neg (fun q => hb2 q.2)]
                
            
          · show zW n D 213 Q 77 [some (.ref 170), some (.int (Int32.ofInt (-1)))] [.int (zI false)] ph1582
            refine w_bne (ykc_213 (e := (4, .ifCond .ne 5, 82)) rfl) rfl (fun q => absurd q (by decide)) (fun b1598 => ?_)
            refine w_alu (pc' := 81) (st' := [.int (Int32.ofInt 0)]) (ykc_213 (e := (0, .iconst 0, 0)) rfl) rfl rfl ?_
            refine w_ret (v := (some (.int (Int32.ofInt 0)))) (ykc_213 (e := (7, .ireturn, 0)) rfl) zr_z ?_
            rw [hQ, zi0]
            refine ⟨(show zRF ph ph1582 from (zFr_trans (zFr_trans (zFr_mono f1 (by simp) (by simp)) (zFr_mono f2 (by simp) (by simp))) (zFr_mono f3 (by simp) (by simp)))), 1, false, a, cs, ?_, rfl, hT3, zRc_F f3 (by simp) (by simp) (zRc_F f2 (by simp) (by simp) hRa), fun h => absurd h (by decide), Nat.le_refl _, Nat.le_refl _⟩
            show (if 3 = 3 then _ else _) = _
            rw [if_pos rfl, if_neg hm1, if_neg hnd2, if_neg hnl, if_neg (fun q => hb1 ⟨q.2.1, q.2.2⟩)]
          
      
    · refine w_load (pc' := 31) (v := .ref 170) (m := 1) (ykc_213 (e := (2, .aload_n kF0, 0)) rfl) rfl rfl ?_
      refine w_load (pc' := 32) (v := .ref 170) (m := 1) (ykc_213 (e := (2, .aload_n kF0, 0)) rfl) rfl rfl ?_
      refine w_alu (pc' := 33) (st' := [.int (Int32.ofInt 3), .ref 170, .ref 170]) (ykc_213 (e := (0, .iconst 3, 0)) rfl) rfl rfl ?_
      have hdd := of_decide_eq_true b1572
      refine w_cv (as := [.ref 170, .int (Int32.ofInt 3)]) (r := [.ref 170]) (ykc_213 (e := (6, .invokevirtual 224, 0)) rfl) rfl rfl rfl rfl (zm_num3 (zSh_F f1 (by decide +kernel) hS) hTa hdd.1 (decide_eq_true hdd.2)) (fun v1599 ph1600 hv => ?_)
      obtain ⟨f2, rfl, hT2, hlt9, hz1⟩ := hv
      show zW n D 213 Q 36 [some (.ref 170), none] [.int (zn (znv t a (zdc b t a))), .ref 170] ph1600
      refine w_cv (as := [.ref 170, .int (zn (znv t a (zdc b t a)))]) (r := []) (ykc_213 (e := (6, .invokevirtual 233, 0)) rfl) rfl rfl rfl rfl (zm_codes (c := znv t a (zdc b t a)) (zSh_F ((show zRF ph ph1600 from (zFr_trans (zFr_mono f1 (by simp) (by simp)) (zFr_mono f2 (by simp) (by simp))))) (by decide +kernel) hS) (zRc_F f2 (by simp) (by simp) hRa) rfl (by omega) (by omega)) (fun v1601 ph1602 hv => ?_)
      obtain ⟨rfl, fc, hR3⟩ := hv
      show zW n D 213 Q 39 [some (.ref 170), none] [] ph1602
      refine w_alu (pc' := 40) (st' := [.int (Int32.ofInt 1)]) (ykc_213 (e := (0, .iconst 1, 0)) rfl) rfl rfl ?_
      refine w_ret (v := (some (.int (Int32.ofInt 1)))) (ykc_213 (e := (7, .ireturn, 0)) rfl) zr_z ?_
      rw [hQ, zi1]
      refine ⟨(show zRF ph ph1602 from (zFr_trans (zFr_trans (zFr_mono f1 (by simp) (by simp)) (zFr_mono f2 (by simp) (by simp))) (zFr_mono fc (by simp) (by simp)))), 1, true, a + zdc b t a, znv t a (zdc b t a) :: cs, ?_, rfl, zTm_F fc (by simp) (by simp) (by simp) hT2, hR3, fun _ => (fc.1 170 17 (by decide) (by decide)).trans ((f2.1 170 17 (by decide) (by decide)).trans h17a), by omega, by show cs.length + 1 + a ≤ _; omega⟩
      show (if 3 = 3 then _ else _) = _
      rw [if_pos rfl, if_neg hm1, if_pos ⟨hdd.1, decide_eq_true hdd.2⟩]
      
  
section ZDL
variable {b : Nat} {t : Nat → Nat}
theorem zde_rf {f r a ns : Nat} {cs : List Nat} {a1 : Nat} {cs1 : List Nat} (hr : r < 3) (h : zde b t f (r + 1) a ns cs = some (false, a1, cs1)) : zde b t (f + 1) r a ns cs = some (false, a1, cs1) := by
  unfold zde
  rw [if_neg (by omega), if_pos hr, h]
  rfl
theorem zde_rt {f g r a ns : Nat} {cs : List Nat} {a1 : Nat} {cs1 : List Nat} {x : Bool × Nat × List Nat} (hr : r < 3) (h : zde b t f (r + 1) a ns cs = some (true, a1, cs1)) (h2 : zde b t g (r + 4) a1 ns cs1 = some x) : ∃ f, zde b t f r a ns cs = some x := by
  refine ⟨f + g + 1, ?_⟩
  unfold zde
  rw [if_neg (by omega), if_pos hr, zde_m h (Nat.le_add_right f g)]
  show (if true = true then zde b t (f + g) (r + 4) a1 ns cs1 else some (true, a1, cs1)) = _
  rw [if_pos rfl]
  exact zde_m h2 (Nat.le_add_left g f)
theorem zde_l0 {r a ns : Nat} {cs : List Nat} (h : ¬ (a < b ∧ zrk2 r (t a) = true)) : zde b t 1 (r + 4) a ns cs = some (true, a, cs) := by
  unfold zde
  rw [if_neg (by omega), if_neg (by omega), show r + 4 - 4 = r by omega, if_neg h]
theorem zde_lf {f r a ns : Nat} {cs : List Nat} {a1 : Nat} {cs1 : List Nat} (h0 : a < b ∧ zrk2 r (t a) = true) (h : zde b t f (r + 1) (a + 1) ns cs = some (false, a1, cs1)) : zde b t (f + 1) (r + 4) a ns cs = some (false, a1, cs1) := by
  unfold zde
  rw [if_neg (by omega), if_neg (by omega), show r + 4 - 4 = r by omega, if_pos h0, show r + 4 - 3 = r + 1 by omega, h]
  rfl
theorem zde_l1 {f a ns : Nat} {cs : List Nat} {a1 : Nat} {cs1 : List Nat} (h0 : a < b ∧ zrk2 0 (t a) = true) (h : zde b t f 1 (a + 1) ns cs = some (true, a1, cs1)) : zde b t (f + 1) 4 a ns cs = some (true, a1, zop (t a) :: cs1) := by
  unfold zde
  rw [if_neg (by decide), if_neg (by decide), show 4 - 4 = 0 from rfl, if_pos h0, show 4 - 3 = 1 from rfl, h]
  rfl
theorem zde_lt {f g r a ns : Nat} {cs : List Nat} {a1 : Nat} {cs1 : List Nat} {x : Bool × Nat × List Nat} (hr : 0 < r) (h0 : a < b ∧ zrk2 r (t a) = true) (h : zde b t f (r + 1) (a + 1) ns cs = some (true, a1, cs1)) (h2 : zde b t g (r + 4) a1 ns (zop (t a) :: cs1) = some x) : ∃ f, zde b t f (r + 4) a ns cs = some x := by
  refine ⟨f + g + 1, ?_⟩
  unfold zde
  rw [if_neg (by omega), if_neg (by omega), show r + 4 - 4 = r by omega, if_pos h0, show r + 4 - 3 = r + 1 by omega, zde_m h (Nat.le_add_right f g)]
  show (if true = true then (if r + 4 = 4 then some (true, a1, zop (t a) :: cs1) else zde b t (f + g) (r + 4) a1 ns (zop (t a) :: cs1)) else some (true, a1, cs1)) = _
  rw [if_pos rfl, if_neg (by omega)]
  exact zde_m h2 (Nat.le_add_left g f)
end ZDL
theorem zm_rankD3 {b ln : Nat} {t : Nat → Nat} {D : Nat} (ih : zIHr b ln t D) (hb40 : b ≤ 40) {ph : pm_H} {a ns : Nat} {cs : List Nat} (hS : zSh ph) (hp : zRp b ln t ph a ns cs) (hns : ns ≤ 4) (hl : cs.length ≤ a) {x : Int32} (hx : x.toInt = ((3 : Nat) : Int)) : zMD (D + 1) 214 [.ref 170, .int x] ph (zRq b ln t 3 a ns cs ph) := by
  obtain ⟨Q, hQ⟩ : ∃ Q : Option Value → pm_H → Prop, Q = (zRq b ln t 3 a ns cs ph) := ⟨_, rfl⟩
  rw [← hQ]
  refine zMD_mk fun n => ?_
  show zW n D 214 Q 0 [some (.ref 170), some (.int x), none, none] [] ph
  have c_0 : ((Int16.ofInt 2000).toInt32).toInt = 2000 := by decide
  have c_1 : (Int32.ofInt 0).toInt = 0 := by decide
  have c_2 : (Int32.ofInt 1).toInt = 1 := by decide
  have c_3 : (Int32.ofInt 3).toInt = 3 := by decide
  have c_4 : (Int32.ofInt 5).toInt = 5 := by decide
  refine w_load (pc' := 1) (v := .int x) (m := 1) (ykc_214 (e := (2, .iload_n kF1, 0)) rfl) rfl rfl ?_
  refine w_alu (pc' := 2) (st' := [.int (Int32.ofInt 3), .int x]) (ykc_214 (e := (0, .iconst 3, 0)) rfl) rfl rfl ?_
  refine w_ine (ykc_214 (e := (4, .if_icmp .ne 8, 10)) rfl) rfl (fun q => by exfalso; omega) (fun b1603 => ?_)
  refine w_load (pc' := 6) (v := .ref 170) (m := 1) (ykc_214 (e := (2, .aload_n kF0, 0)) rfl) rfl rfl ?_
  refine w_cvD (as := [.ref 170]) (r := []) (ykc_214 (e := (6, .invokevirtual 230, 0)) rfl) rfl rfl rfl rfl (ih.1 ph a ns cs hS hp hns hl) (fun v1604 ph1605 hv => ?_)
  rcases hv with ⟨f2, f9, ok, a2, cs2, hz, rfl, hT2, hR2, h172, ha2, hl2⟩
  · show zW n D 214 Q 9 [some (.ref 170), some (.int x), none, none] [.int (zI ok)] ph1605
    refine w_ret (v := (some (.int (zI ok)))) (ykc_214 (e := (7, .ireturn, 0)) rfl) zr_z ?_
    rw [hQ]
    exact ⟨f2, f9, ok, a2, cs2, hz, rfl, hT2, hR2, h172, ha2, hl2⟩
  
theorem zm_rankD2 {b ln : Nat} {t : Nat → Nat} {D : Nat} (ih : zIHr b ln t D) (hb40 : b ≤ 40) {ph : pm_H} {a ns : Nat} {cs : List Nat} (hS : zSh ph) (hp : zRp b ln t ph a ns cs) (hns : ns ≤ 4) (hl : cs.length ≤ a) {x : Int32} (hx : x.toInt = ((2 : Nat) : Int)) : zMD (D + 1) 214 [.ref 170, .int x] ph (zRq b ln t 2 a ns cs ph) := by
  obtain ⟨Q, hQ⟩ : ∃ Q : Option Value → pm_H → Prop, Q = (zRq b ln t 2 a ns cs ph) := ⟨_, rfl⟩
  rw [← hQ]
  refine zMD_mk fun n => ?_
  show zW n D 214 Q 0 [some (.ref 170), some (.int x), none, none] [] ph
  have c_0 : ((Int16.ofInt 2000).toInt32).toInt = 2000 := by decide
  have c_1 : (Int32.ofInt 0).toInt = 0 := by decide
  have c_2 : (Int32.ofInt 1).toInt = 1 := by decide
  have c_3 : (Int32.ofInt 3).toInt = 3 := by decide
  have c_4 : (Int32.ofInt 5).toInt = 5 := by decide
  have ihr := ih
  obtain ⟨hT, h17, hR⟩ := hp
  have hab := hT.2.2.1
  refine w_load (pc' := 1) (v := .int x) (m := 1) (ykc_214 (e := (2, .iload_n kF1, 0)) rfl) rfl rfl ?_
  refine w_alu (pc' := 2) (st' := [.int (Int32.ofInt 3), .int x]) (ykc_214 (e := (0, .iconst 3, 0)) rfl) rfl rfl ?_
  refine w_ine (ykc_214 (e := (4, .if_icmp .ne 8, 10)) rfl) rfl (fun b1606 => ?_) (fun q => by exfalso; omega)
  refine w_load (pc' := 11) (v := .ref 170) (m := 1) (ykc_214 (e := (2, .aload_n kF0, 0)) rfl) rfl rfl ?_
  refine w_load (pc' := 12) (v := .int x) (m := 1) (ykc_214 (e := (2, .iload_n kF1, 0)) rfl) rfl rfl ?_
  refine w_alu (pc' := 13) (st' := [.int (Int32.ofInt 1), .int x, .ref 170]) (ykc_214 (e := (0, .iconst 1, 0)) rfl) rfl rfl ?_
  have e1607 : x + (Int32.ofInt 1) = zn (3) := (zaddN (a := 2) (b := 1) (by omega) c_2 (by omega)) 
  have te1607 := znt (k := 3) (by omega)
  refine w_alu (pc' := 14) (st' := [.int (zn (3)), .ref 170]) (ykc_214 (e := (0, .iadd, 0)) rfl) (by rw [← e1607]; rfl) rfl ?_
  refine w_cvD (as := [.ref 170, .int (zn (3))]) (r := []) (ykc_214 (e := (6, .invokevirtual 239, 0)) rfl) rfl rfl rfl rfl (ihr.2 _ 3 _ a ns cs hS (by first | exact znt (by decide) | omega) (by decide) ⟨hT, h17, hR⟩ hns hl) (fun v1608 ph1609 hv => ?_)
  rcases hv with ⟨f1, g1, ok1, a1, cs1, hz1, rfl, hT1, hR1, h171, ha1, hl1⟩
  · cases ok1 with
    | false =>
      show zW n D 214 Q 17 [some (.ref 170), some (.int x), none, none] [.int (zI false)] ph1609
      refine w_bne (ykc_214 (e := (4, .ifCond .ne 5, 22)) rfl) rfl (fun q => absurd q (by decide)) (fun b1610 => ?_)
      refine w_alu (pc' := 21) (st' := [.int (Int32.ofInt 0)]) (ykc_214 (e := (0, .iconst 0, 0)) rfl) rfl rfl ?_
      refine w_ret (v := (some (.int (Int32.ofInt 0)))) (ykc_214 (e := (7, .ireturn, 0)) rfl) zr_z ?_
      rw [hQ, zi0]
      refine ⟨f1, g1 + 1, false, a1, cs1, zde_rf (by decide) hz1, rfl, hT1, hR1, fun h => absurd h (by decide), ha1, hl1⟩
    | true =>
      show zW n D 214 Q 17 [some (.ref 170), some (.int x), none, none] [.int (zI true)] ph1609
      refine w_bne (ykc_214 (e := (4, .ifCond .ne 5, 22)) rfl) rfl (fun b1611 => ?_) (fun q => absurd q (by decide))
      refine w_alu (pc' := 23) (st' := [.int (Int32.ofInt 1)]) (ykc_214 (e := (0, .iconst 1, 0)) rfl) rfl rfl ?_
      refine w_store (pc' := 24) (L' := [some (.ref 170), some (.int x), some (.int (Int32.ofInt 1)), none]) (st' := []) (m := 1) (ykc_214 (e := (3, .istore_n kF2, 0)) rfl) rfl rfl ?_
      have hl9 : ∀ (n : Nat), ∀ (p : pm_H) (a1 : Nat) (cs1 : List Nat) (o9 : Option Value), (zRF ph p) → (zTm p a1 b ln t) → (zc p 170 17 = some (.int (zn ns))) → (zRc p cs1) → (a ≤ a1) → (cs1.length + a ≤ cs.length + a1) → (∀ g y, zde b t g 6 a1 ns cs1 = some y → ∃ f, zde b t f 2 a ns cs = some y) → zW n D 214 Q 24 [some (.ref 170), some (.int x), some (.int (Int32.ofInt 1)), o9] [] p := by
        intro n
        induction n using Nat.strongRecOn with
        | ind n ih =>
          intro p a1 cs1 o9 f1 hT1 h171 hR1 ha1 hl1 hcon
          have hab1 := hT1.2.2.1
          refine w_load (pc' := 25) (v := .int (Int32.ofInt 1)) (m := 1) (ykc_214 (e := (2, .iload_n kF2, 0)) rfl) rfl rfl ?_
          refine w_zeq (ykc_214 (e := (4, .ifCond .eq 88, 113)) rfl) rfl (fun q => by exfalso; omega) (fun b1612 => ?_)
          refine w_load (pc' := 29) (v := .ref 170) (m := 1) (ykc_214 (e := (2, .aload_n kF0, 0)) rfl) rfl rfl ?_
          refine w_load (pc' := 30) (v := .int x) (m := 1) (ykc_214 (e := (2, .iload_n kF1, 0)) rfl) rfl rfl ?_
          refine w_zne (ykc_214 (e := (4, .ifCond .ne 8, 38)) rfl) rfl (fun b1613 => ?_) (fun q => by exfalso; omega)
          refine w_load (pc' := 39) (v := .int x) (m := 1) (ykc_214 (e := (2, .iload_n kF1, 0)) rfl) rfl rfl ?_
          refine w_alu (pc' := 40) (st' := [.int (Int32.ofInt 1), .int x, .ref 170]) (ykc_214 (e := (0, .iconst 1, 0)) rfl) rfl rfl ?_
          refine w_ine (ykc_214 (e := (4, .if_icmp .ne 8, 48)) rfl) rfl (fun b1614 => ?_) (fun q => by exfalso; omega)
          refine w_push (pc' := 50) (v := .ref 1048631) (m := 2) (ykc_214 (e := (1, .ldc 246, 0)) rfl) rfl rfl ?_
          refine w_cv (as := [.ref 170, .ref 1048631]) (r := []) (ykc_214 (e := (6, .invokevirtual 184, 0)) rfl) rfl rfl rfl rfl (zm_takesOf (zRF_S ((show zRF ph p from (zFr_mono f1 (by simp) (by simp)))) hS) hT1 zstr_mul) (fun v1615 ph1616 hv => ?_)
          rcases hv with ⟨f2, ⟨k9, hk9, ha9, hc9, rfl, hT2⟩ | ⟨hn9, rfl, hT2⟩⟩
          · have tk9 := znt (k := k9) (by omega)
            have e8 : zop (t a1) = 2005 + k9 := by rw [hc9]; exact (zrk_a.2.2 k9 hk9).2
            have e7 : zrk2 2 (t a1) = true := by rw [hc9]; exact (zrk_a.2.2 k9 hk9).1
            show zW n D 214 Q 53 [some (.ref 170), some (.int x), some (.int (Int32.ofInt 1)), o9] [.int (zn k9)] ph1616
            refine w_store (pc' := 54) (L' := [some (.ref 170), some (.int x), some (.int (Int32.ofInt 1)), some (.int (zn k9))]) (st' := []) (m := 1) (ykc_214 (e := (3, .istore_n kF3, 0)) rfl) rfl rfl ?_
            refine w_load (pc' := 55) (v := .int (zn k9)) (m := 1) (ykc_214 (e := (2, .iload_n kF3, 0)) rfl) rfl rfl ?_
            refine w_zge (ykc_214 (e := (4, .ifCond .ge 5, 60)) rfl) rfl (fun b1617 => ?_) (fun q => by exfalso; omega)
            refine w_load (pc' := 61) (v := .ref 170) (m := 1) (ykc_214 (e := (2, .aload_n kF0, 0)) rfl) rfl rfl ?_
            refine w_load (pc' := 62) (v := .int x) (m := 1) (ykc_214 (e := (2, .iload_n kF1, 0)) rfl) rfl rfl ?_
            refine w_alu (pc' := 63) (st' := [.int (Int32.ofInt 1), .int x, .ref 170]) (ykc_214 (e := (0, .iconst 1, 0)) rfl) rfl rfl ?_
            have e1618 : x + (Int32.ofInt 1) = zn (3) := (zaddN (a := 2) (b := 1) (by omega) c_2 (by omega)) 
            have te1618 := znt (k := 3) (by omega)
            refine w_alu (pc' := 64) (st' := [.int (zn (3)), .ref 170]) (ykc_214 (e := (0, .iadd, 0)) rfl) (by rw [← e1618]; rfl) rfl ?_
            refine w_cvD (as := [.ref 170, .int (zn (3))]) (r := []) (ykc_214 (e := (6, .invokevirtual 239, 0)) rfl) rfl rfl rfl rfl (ihr.2 _ 3 _ (a1 + 1) ns cs1 (zRF_S ((show zRF ph ph1616 from (zFr_trans (zFr_mono f1 (by simp) (by simp)) (zFr_mono f2 (by simp) (by simp))))) hS) (by first | exact znt (by decide) | omega) (by decide) ⟨hT2, (f2.1 170 17 (by decide) (by decide)).trans h171, zRc_F f2 (by simp) (by simp) hR1⟩ hns (by omega)) (fun v1619 ph1620 hv => ?_)
            rcases hv with ⟨f3, g3, ok3, a3, cs3, hz3, rfl, hT3, hR3, h173, ha3, hl3⟩
            · cases ok3 with
              | false =>
                show zW n D 214 Q 67 [some (.ref 170), some (.int x), some (.int (Int32.ofInt 1)), some (.int (zn k9))] [.int (zI false)] ph1620
                refine w_bne (ykc_214 (e := (4, .ifCond .ne 5, 72)) rfl) rfl (fun q => absurd q (by decide)) (fun b1621 => ?_)
                refine w_alu (pc' := 71) (st' := [.int (Int32.ofInt 0)]) (ykc_214 (e := (0, .iconst 0, 0)) rfl) rfl rfl ?_
                refine w_ret (v := (some (.int (Int32.ofInt 0)))) (ykc_214 (e := (7, .ireturn, 0)) rfl) zr_z ?_
                rw [hQ, zi0]
                obtain ⟨g9, hg9⟩ := hcon _ _ (zde_lf (r := 2) ⟨ha9, e7⟩ hz3)
                exact ⟨(show zRF ph ph1620 from (zFr_trans (zFr_trans (zFr_mono f1 (by simp) (by simp)) (zFr_mono f2 (by simp) (by simp))) (zFr_mono f3 (by simp) (by simp)))), g9, false, a3, cs3, hg9, rfl, hT3, hR3, fun h => absurd h (by decide), by omega, by omega⟩
              | true =>
                show zW n D 214 Q 67 [some (.ref 170), some (.int x), some (.int (Int32.ofInt 1)), some (.int (zn k9))] [.int (zI true)] ph1620
                have hb3 := hT3.2.2.1
                refine w_bne (ykc_214 (e := (4, .ifCond .ne 5, 72)) rfl) rfl (fun b1622 => ?_) (fun q => absurd q (by decide))
                refine w_load (pc' := 73) (v := .ref 170) (m := 1) (ykc_214 (e := (2, .aload_n kF0, 0)) rfl) rfl rfl ?_
                refine w_push (pc' := 76) (v := .int ((Int16.ofInt 2000).toInt32)) (m := 3) (ykc_214 (e := (1, .sipush 2000, 0)) rfl) rfl rfl ?_
                refine w_load (pc' := 77) (v := .int (zn k9)) (m := 1) (ykc_214 (e := (2, .iload_n kF3, 0)) rfl) rfl rfl ?_
                have e1623 : ((Int16.ofInt 2000).toInt32) + (zn k9) = zn (2000 + k9) := (zaddN (a := 2000) (b := k9) c_0 (znt (by omega)) (by omega)) 
                have te1623 := znt (k := 2000 + k9) (by omega)
                refine w_alu (pc' := 78) (st' := [.int (zn (2000 + k9)), .ref 170]) (ykc_214 (e := (0, .iadd, 0)) rfl) (by rw [← e1623]; rfl) rfl ?_
                refine w_load (pc' := 79) (v := .int x) (m := 1) (ykc_214 (e := (2, .iload_n kF1, 0)) rfl) rfl rfl ?_
                refine w_zne (ykc_214 (e := (4, .ifCond .ne 7, 86)) rfl) rfl (fun b1624 => ?_) (fun q => by exfalso; omega)
                refine w_load (pc' := 87) (v := .int x) (m := 1) (ykc_214 (e := (2, .iload_n kF1, 0)) rfl) rfl rfl ?_
                refine w_alu (pc' := 88) (st' := [.int (Int32.ofInt 1), .int x, .int (zn (2000 + k9)), .ref 170]) (ykc_214 (e := (0, .iconst 1, 0)) rfl) rfl rfl ?_
                refine w_ine (ykc_214 (e := (4, .if_icmp .ne 7, 95)) rfl) rfl (fun b1625 => ?_) (fun q => by exfalso; omega)
                refine w_alu (pc' := 96) (st' := [.int (Int32.ofInt 5), .int (zn (2000 + k9)), .ref 170]) (ykc_214 (e := (0, .iconst 5, 0)) rfl) rfl rfl ?_
                have e1626 : (zn (2000 + k9)) + (Int32.ofInt 5) = zn (2000 + k9 + 5) := (zaddN (a := 2000 + k9) (b := 5) (znt (by omega)) c_4 (by omega)) 
                have te1626 := znt (k := 2000 + k9 + 5) (by omega)
                refine w_alu (pc' := 97) (st' := [.int (zn (2000 + k9 + 5)), .ref 170]) (ykc_214 (e := (0, .iadd, 0)) rfl) (by rw [← e1626]; rfl) rfl ?_
                refine w_cv (as := [.ref 170, .int (zn (2000 + k9 + 5))]) (r := []) (ykc_214 (e := (6, .invokevirtual 233, 0)) rfl) rfl rfl rfl rfl (zm_codes (c := 2000 + k9 + 5) (zRF_S ((show zRF ph ph1620 from (zFr_trans (zFr_trans (zFr_mono f1 (by simp) (by simp)) (zFr_mono f2 (by simp) (by simp))) (zFr_mono f3 (by simp) (by simp))))) hS) hR3 (by first | rfl | (apply congrArg zn; omega)) (by omega) (by omega)) (fun v1627 ph1628 hv => ?_)
                obtain ⟨rfl, fc, hR4⟩ := hv
                show zW n D 214 Q 100 [some (.ref 170), some (.int x), some (.int (Int32.ofInt 1)), some (.int (zn k9))] [] ph1628
                refine w_load (pc' := 101) (v := .int x) (m := 1) (ykc_214 (e := (2, .iload_n kF1, 0)) rfl) rfl rfl ?_
                refine w_zle (ykc_214 (e := (4, .ifCond .le 7, 108)) rfl) rfl (fun q => by exfalso; omega) (fun b1629 => ?_)
                refine w_alu (pc' := 105) (st' := [.int (Int32.ofInt 1)]) (ykc_214 (e := (0, .iconst 1, 0)) rfl) rfl rfl ?_
                refine w_br (pc' := 109) (st' := [.int (Int32.ofInt 1)]) (ykc_214 (e := (4, .goto 4, 109)) rfl) rfl ?_
                refine w_store (pc' := 110) (L' := [some (.ref 170), some (.int x), some (.int (Int32.ofInt 1)), some (.int (zn k9))]) (st' := []) (m := 1) (ykc_214 (e := (3, .istore_n kF2, 0)) rfl) rfl rfl ?_
                refine w_gb (ykc_214 (e := (4, .goto (-86), 24)) rfl) (fun k1630 hk1630 => ?_)
                have hab3 := hT3.2.2.1
                have hR5 : zRc ph1628 (zop (t a1) :: cs3) := by rw [e8, show 2005 + k9 = 2000 + k9 + 5 by omega]; exact hR4
                have hT5 := zTm_F fc (by simp) (by simp) (by simp) hT3
                have h175 := (fc.1 170 17 (by decide) (by decide)).trans (h173 rfl)
                have hl5 : (zop (t a1) :: cs3).length + a ≤ cs.length + a3 := by show cs3.length + 1 + a ≤ _; omega
                exact ih k1630 hk1630 _ a3 (zop (t a1) :: cs3) _ ((show zRF ph ph1628 from (zFr_trans (zFr_trans (zFr_trans (zFr_mono f1 (by simp) (by simp)) (zFr_mono f2 (by simp) (by simp))) (zFr_mono f3 (by simp) (by simp))) (zFr_mono fc (by simp) (by simp))))) hT5 h175 hR5 (by omega) hl5 (fun g y h => by
                  obtain ⟨g9, hg9⟩ := zde_lt (r := 2) (by decide) ⟨ha9, e7⟩ hz3 h
                  exact hcon _ _ hg9)
            
          · have tm1 : (Int32.ofInt (-1)).toInt = -1 := by decide
            have hno : ¬ (a1 < b ∧ zrk2 2 (t a1) = true) := fun q => by
              obtain ⟨k, hk, e⟩ := zrk_c.2.2 q.2
              exact hn9 q.1 k hk e.symm
            show zW n D 214 Q 53 [some (.ref 170), some (.int x), some (.int (Int32.ofInt 1)), o9] [.int (Int32.ofInt (-1))] ph1616
            refine w_store (pc' := 54) (L' := [some (.ref 170), some (.int x), some (.int (Int32.ofInt 1)), some (.int (Int32.ofInt (-1)))]) (st' := []) (m := 1) (ykc_214 (e := (3, .istore_n kF3, 0)) rfl) rfl rfl ?_
            refine w_load (pc' := 55) (v := .int (Int32.ofInt (-1))) (m := 1) (ykc_214 (e := (2, .iload_n kF3, 0)) rfl) rfl rfl ?_
            refine w_zge (ykc_214 (e := (4, .ifCond .ge 5, 60)) rfl) rfl (fun q => by exfalso; omega) (fun b1631 => ?_)
            refine w_alu (pc' := 59) (st' := [.int (Int32.ofInt 1)]) (ykc_214 (e := (0, .iconst 1, 0)) rfl) rfl rfl ?_
            refine w_ret (v := (some (.int (Int32.ofInt 1)))) (ykc_214 (e := (7, .ireturn, 0)) rfl) zr_z ?_
            rw [hQ, zi1]
            obtain ⟨g9, hg9⟩ := hcon _ _ (zde_l0 hno)
            exact ⟨(show zRF ph ph1616 from (zFr_trans (zFr_mono f1 (by simp) (by simp)) (zFr_mono f2 (by simp) (by simp)))), g9, true, a1, cs1, hg9, rfl, hT2, zRc_F f2 (by simp) (by simp) hR1, fun _ => (f2.1 170 17 (by decide) (by decide)).trans h171, ha1, hl1⟩
          
      exact hl9 n _ a1 cs1 _ f1 hT1 (h171 rfl) hR1 ha1 hl1 (fun g y h => zde_rt (by decide) hz1 h)
      
  
theorem zm_rankD1 {b ln : Nat} {t : Nat → Nat} {D : Nat} (ih : zIHr b ln t D) (hb40 : b ≤ 40) {ph : pm_H} {a ns : Nat} {cs : List Nat} (hS : zSh ph) (hp : zRp b ln t ph a ns cs) (hns : ns ≤ 4) (hl : cs.length ≤ a) {x : Int32} (hx : x.toInt = ((1 : Nat) : Int)) : zMD (D + 1) 214 [.ref 170, .int x] ph (zRq b ln t 1 a ns cs ph) := by
  obtain ⟨Q, hQ⟩ : ∃ Q : Option Value → pm_H → Prop, Q = (zRq b ln t 1 a ns cs ph) := ⟨_, rfl⟩
  rw [← hQ]
  refine zMD_mk fun n => ?_
  show zW n D 214 Q 0 [some (.ref 170), some (.int x), none, none] [] ph
  have c_0 : ((Int16.ofInt 2000).toInt32).toInt = 2000 := by decide
  have c_1 : (Int32.ofInt 0).toInt = 0 := by decide
  have c_2 : (Int32.ofInt 1).toInt = 1 := by decide
  have c_3 : (Int32.ofInt 3).toInt = 3 := by decide
  have c_4 : (Int32.ofInt 5).toInt = 5 := by decide
  have ihr := ih
  obtain ⟨hT, h17, hR⟩ := hp
  have hab := hT.2.2.1
  refine w_load (pc' := 1) (v := .int x) (m := 1) (ykc_214 (e := (2, .iload_n kF1, 0)) rfl) rfl rfl ?_
  refine w_alu (pc' := 2) (st' := [.int (Int32.ofInt 3), .int x]) (ykc_214 (e := (0, .iconst 3, 0)) rfl) rfl rfl ?_
  refine w_ine (ykc_214 (e := (4, .if_icmp .ne 8, 10)) rfl) rfl (fun b1632 => ?_) (fun q => by exfalso; omega)
  refine w_load (pc' := 11) (v := .ref 170) (m := 1) (ykc_214 (e := (2, .aload_n kF0, 0)) rfl) rfl rfl ?_
  refine w_load (pc' := 12) (v := .int x) (m := 1) (ykc_214 (e := (2, .iload_n kF1, 0)) rfl) rfl rfl ?_
  refine w_alu (pc' := 13) (st' := [.int (Int32.ofInt 1), .int x, .ref 170]) (ykc_214 (e := (0, .iconst 1, 0)) rfl) rfl rfl ?_
  have e1633 : x + (Int32.ofInt 1) = zn (2) := (zaddN (a := 1) (b := 1) (by omega) c_2 (by omega)) 
  have te1633 := znt (k := 2) (by omega)
  refine w_alu (pc' := 14) (st' := [.int (zn (2)), .ref 170]) (ykc_214 (e := (0, .iadd, 0)) rfl) (by rw [← e1633]; rfl) rfl ?_
  refine w_cvD (as := [.ref 170, .int (zn (2))]) (r := []) (ykc_214 (e := (6, .invokevirtual 239, 0)) rfl) rfl rfl rfl rfl (ihr.2 _ 2 _ a ns cs hS (by first | exact znt (by decide) | omega) (by decide) ⟨hT, h17, hR⟩ hns hl) (fun v1634 ph1635 hv => ?_)
  rcases hv with ⟨f1, g1, ok1, a1, cs1, hz1, rfl, hT1, hR1, h171, ha1, hl1⟩
  · cases ok1 with
    | false =>
      show zW n D 214 Q 17 [some (.ref 170), some (.int x), none, none] [.int (zI false)] ph1635
      refine w_bne (ykc_214 (e := (4, .ifCond .ne 5, 22)) rfl) rfl (fun q => absurd q (by decide)) (fun b1636 => ?_)
      refine w_alu (pc' := 21) (st' := [.int (Int32.ofInt 0)]) (ykc_214 (e := (0, .iconst 0, 0)) rfl) rfl rfl ?_
      refine w_ret (v := (some (.int (Int32.ofInt 0)))) (ykc_214 (e := (7, .ireturn, 0)) rfl) zr_z ?_
      rw [hQ, zi0]
      refine ⟨f1, g1 + 1, false, a1, cs1, zde_rf (by decide) hz1, rfl, hT1, hR1, fun h => absurd h (by decide), ha1, hl1⟩
    | true =>
      show zW n D 214 Q 17 [some (.ref 170), some (.int x), none, none] [.int (zI true)] ph1635
      refine w_bne (ykc_214 (e := (4, .ifCond .ne 5, 22)) rfl) rfl (fun b1637 => ?_) (fun q => absurd q (by decide))
      refine w_alu (pc' := 23) (st' := [.int (Int32.ofInt 1)]) (ykc_214 (e := (0, .iconst 1, 0)) rfl) rfl rfl ?_
      refine w_store (pc' := 24) (L' := [some (.ref 170), some (.int x), some (.int (Int32.ofInt 1)), none]) (st' := []) (m := 1) (ykc_214 (e := (3, .istore_n kF2, 0)) rfl) rfl rfl ?_
      have hl9 : ∀ (n : Nat), ∀ (p : pm_H) (a1 : Nat) (cs1 : List Nat) (o9 : Option Value), (zRF ph p) → (zTm p a1 b ln t) → (zc p 170 17 = some (.int (zn ns))) → (zRc p cs1) → (a ≤ a1) → (cs1.length + a ≤ cs.length + a1) → (∀ g y, zde b t g 5 a1 ns cs1 = some y → ∃ f, zde b t f 1 a ns cs = some y) → zW n D 214 Q 24 [some (.ref 170), some (.int x), some (.int (Int32.ofInt 1)), o9] [] p := by
        intro n
        induction n using Nat.strongRecOn with
        | ind n ih =>
          intro p a1 cs1 o9 f1 hT1 h171 hR1 ha1 hl1 hcon
          have hab1 := hT1.2.2.1
          refine w_load (pc' := 25) (v := .int (Int32.ofInt 1)) (m := 1) (ykc_214 (e := (2, .iload_n kF2, 0)) rfl) rfl rfl ?_
          refine w_zeq (ykc_214 (e := (4, .ifCond .eq 88, 113)) rfl) rfl (fun q => by exfalso; omega) (fun b1638 => ?_)
          refine w_load (pc' := 29) (v := .ref 170) (m := 1) (ykc_214 (e := (2, .aload_n kF0, 0)) rfl) rfl rfl ?_
          refine w_load (pc' := 30) (v := .int x) (m := 1) (ykc_214 (e := (2, .iload_n kF1, 0)) rfl) rfl rfl ?_
          refine w_zne (ykc_214 (e := (4, .ifCond .ne 8, 38)) rfl) rfl (fun b1639 => ?_) (fun q => by exfalso; omega)
          refine w_load (pc' := 39) (v := .int x) (m := 1) (ykc_214 (e := (2, .iload_n kF1, 0)) rfl) rfl rfl ?_
          refine w_alu (pc' := 40) (st' := [.int (Int32.ofInt 1), .int x, .ref 170]) (ykc_214 (e := (0, .iconst 1, 0)) rfl) rfl rfl ?_
          refine w_ine (ykc_214 (e := (4, .if_icmp .ne 8, 48)) rfl) rfl (fun q => by exfalso; omega) (fun b1640 => ?_)
          refine w_push (pc' := 45) (v := .ref 1048630) (m := 2) (ykc_214 (e := (1, .ldc 244, 0)) rfl) rfl rfl ?_
          refine w_br (pc' := 50) (st' := [.ref 1048630, .ref 170]) (ykc_214 (e := (4, .goto 5, 50)) rfl) rfl ?_
          refine w_cv (as := [.ref 170, .ref 1048630]) (r := []) (ykc_214 (e := (6, .invokevirtual 184, 0)) rfl) rfl rfl rfl rfl (zm_takesOf (zRF_S ((show zRF ph p from (zFr_mono f1 (by simp) (by simp)))) hS) hT1 zstr_add) (fun v1641 ph1642 hv => ?_)
          rcases hv with ⟨f2, ⟨k9, hk9, ha9, hc9, rfl, hT2⟩ | ⟨hn9, rfl, hT2⟩⟩
          · have tk9 := znt (k := k9) (by omega)
            have e8 : zop (t a1) = 2003 + k9 := by rw [hc9]; exact (zrk_a.2.1 k9 hk9).2
            have e7 : zrk2 1 (t a1) = true := by rw [hc9]; exact (zrk_a.2.1 k9 hk9).1
            show zW n D 214 Q 53 [some (.ref 170), some (.int x), some (.int (Int32.ofInt 1)), o9] [.int (zn k9)] ph1642
            refine w_store (pc' := 54) (L' := [some (.ref 170), some (.int x), some (.int (Int32.ofInt 1)), some (.int (zn k9))]) (st' := []) (m := 1) (ykc_214 (e := (3, .istore_n kF3, 0)) rfl) rfl rfl ?_
            refine w_load (pc' := 55) (v := .int (zn k9)) (m := 1) (ykc_214 (e := (2, .iload_n kF3, 0)) rfl) rfl rfl ?_
            refine w_zge (ykc_214 (e := (4, .ifCond .ge 5, 60)) rfl) rfl (fun b1643 => ?_) (fun q => by exfalso; omega)
            refine w_load (pc' := 61) (v := .ref 170) (m := 1) (ykc_214 (e := (2, .aload_n kF0, 0)) rfl) rfl rfl ?_
            refine w_load (pc' := 62) (v := .int x) (m := 1) (ykc_214 (e := (2, .iload_n kF1, 0)) rfl) rfl rfl ?_
            refine w_alu (pc' := 63) (st' := [.int (Int32.ofInt 1), .int x, .ref 170]) (ykc_214 (e := (0, .iconst 1, 0)) rfl) rfl rfl ?_
            have e1644 : x + (Int32.ofInt 1) = zn (2) := (zaddN (a := 1) (b := 1) (by omega) c_2 (by omega)) 
            have te1644 := znt (k := 2) (by omega)
            refine w_alu (pc' := 64) (st' := [.int (zn (2)), .ref 170]) (ykc_214 (e := (0, .iadd, 0)) rfl) (by rw [← e1644]; rfl) rfl ?_
            refine w_cvD (as := [.ref 170, .int (zn (2))]) (r := []) (ykc_214 (e := (6, .invokevirtual 239, 0)) rfl) rfl rfl rfl rfl (ihr.2 _ 2 _ (a1 + 1) ns cs1 (zRF_S ((show zRF ph ph1642 from (zFr_trans (zFr_mono f1 (by simp) (by simp)) (zFr_mono f2 (by simp) (by simp))))) hS) (by first | exact znt (by decide) | omega) (by decide) ⟨hT2, (f2.1 170 17 (by decide) (by decide)).trans h171, zRc_F f2 (by simp) (by simp) hR1⟩ hns (by omega)) (fun v1645 ph1646 hv => ?_)
            rcases hv with ⟨f3, g3, ok3, a3, cs3, hz3, rfl, hT3, hR3, h173, ha3, hl3⟩
            · cases ok3 with
              | false =>
                show zW n D 214 Q 67 [some (.ref 170), some (.int x), some (.int (Int32.ofInt 1)), some (.int (zn k9))] [.int (zI false)] ph1646
                refine w_bne (ykc_214 (e := (4, .ifCond .ne 5, 72)) rfl) rfl (fun q => absurd q (by decide)) (fun b1647 => ?_)
                refine w_alu (pc' := 71) (st' := [.int (Int32.ofInt 0)]) (ykc_214 (e := (0, .iconst 0, 0)) rfl) rfl rfl ?_
                refine w_ret (v := (some (.int (Int32.ofInt 0)))) (ykc_214 (e := (7, .ireturn, 0)) rfl) zr_z ?_
                rw [hQ, zi0]
                obtain ⟨g9, hg9⟩ := hcon _ _ (zde_lf (r := 1) ⟨ha9, e7⟩ hz3)
                exact ⟨(show zRF ph ph1646 from (zFr_trans (zFr_trans (zFr_mono f1 (by simp) (by simp)) (zFr_mono f2 (by simp) (by simp))) (zFr_mono f3 (by simp) (by simp)))), g9, false, a3, cs3, hg9, rfl, hT3, hR3, fun h => absurd h (by decide), by omega, by omega⟩
              | true =>
                show zW n D 214 Q 67 [some (.ref 170), some (.int x), some (.int (Int32.ofInt 1)), some (.int (zn k9))] [.int (zI true)] ph1646
                have hb3 := hT3.2.2.1
                refine w_bne (ykc_214 (e := (4, .ifCond .ne 5, 72)) rfl) rfl (fun b1648 => ?_) (fun q => absurd q (by decide))
                refine w_load (pc' := 73) (v := .ref 170) (m := 1) (ykc_214 (e := (2, .aload_n kF0, 0)) rfl) rfl rfl ?_
                refine w_push (pc' := 76) (v := .int ((Int16.ofInt 2000).toInt32)) (m := 3) (ykc_214 (e := (1, .sipush 2000, 0)) rfl) rfl rfl ?_
                refine w_load (pc' := 77) (v := .int (zn k9)) (m := 1) (ykc_214 (e := (2, .iload_n kF3, 0)) rfl) rfl rfl ?_
                have e1649 : ((Int16.ofInt 2000).toInt32) + (zn k9) = zn (2000 + k9) := (zaddN (a := 2000) (b := k9) c_0 (znt (by omega)) (by omega)) 
                have te1649 := znt (k := 2000 + k9) (by omega)
                refine w_alu (pc' := 78) (st' := [.int (zn (2000 + k9)), .ref 170]) (ykc_214 (e := (0, .iadd, 0)) rfl) (by rw [← e1649]; rfl) rfl ?_
                refine w_load (pc' := 79) (v := .int x) (m := 1) (ykc_214 (e := (2, .iload_n kF1, 0)) rfl) rfl rfl ?_
                refine w_zne (ykc_214 (e := (4, .ifCond .ne 7, 86)) rfl) rfl (fun b1650 => ?_) (fun q => by exfalso; omega)
                refine w_load (pc' := 87) (v := .int x) (m := 1) (ykc_214 (e := (2, .iload_n kF1, 0)) rfl) rfl rfl ?_
                refine w_alu (pc' := 88) (st' := [.int (Int32.ofInt 1), .int x, .int (zn (2000 + k9)), .ref 170]) (ykc_214 (e := (0, .iconst 1, 0)) rfl) rfl rfl ?_
                refine w_ine (ykc_214 (e := (4, .if_icmp .ne 7, 95)) rfl) rfl (fun q => by exfalso; omega) (fun b1651 => ?_)
                refine w_alu (pc' := 92) (st' := [.int (Int32.ofInt 3), .int (zn (2000 + k9)), .ref 170]) (ykc_214 (e := (0, .iconst 3, 0)) rfl) rfl rfl ?_
                refine w_br (pc' := 96) (st' := [.int (Int32.ofInt 3), .int (zn (2000 + k9)), .ref 170]) (ykc_214 (e := (4, .goto 4, 96)) rfl) rfl ?_
                have e1652 : (zn (2000 + k9)) + (Int32.ofInt 3) = zn (2000 + k9 + 3) := (zaddN (a := 2000 + k9) (b := 3) (znt (by omega)) c_3 (by omega)) 
                have te1652 := znt (k := 2000 + k9 + 3) (by omega)
                refine w_alu (pc' := 97) (st' := [.int (zn (2000 + k9 + 3)), .ref 170]) (ykc_214 (e := (0, .iadd, 0)) rfl) (by rw [← e1652]; rfl) rfl ?_
                refine w_cv (as := [.ref 170, .int (zn (2000 + k9 + 3))]) (r := []) (ykc_214 (e := (6, .invokevirtual 233, 0)) rfl) rfl rfl rfl rfl (zm_codes (c := 2000 + k9 + 3) (zRF_S ((show zRF ph ph1646 from (zFr_trans (zFr_trans (zFr_mono f1 (by simp) (by simp)) (zFr_mono f2 (by simp) (by simp))) (zFr_mono f3 (by simp) (by simp))))) hS) hR3 (by first | rfl | (apply congrArg zn; omega)) (by omega) (by omega)) (fun v1653 ph1654 hv => ?_)
                obtain ⟨rfl, fc, hR4⟩ := hv
                show zW n D 214 Q 100 [some (.ref 170), some (.int x), some (.int (Int32.ofInt 1)), some (.int (zn k9))] [] ph1654
                refine w_load (pc' := 101) (v := .int x) (m := 1) (ykc_214 (e := (2, .iload_n kF1, 0)) rfl) rfl rfl ?_
                refine w_zle (ykc_214 (e := (4, .ifCond .le 7, 108)) rfl) rfl (fun q => by exfalso; omega) (fun b1655 => ?_)
                refine w_alu (pc' := 105) (st' := [.int (Int32.ofInt 1)]) (ykc_214 (e := (0, .iconst 1, 0)) rfl) rfl rfl ?_
                refine w_br (pc' := 109) (st' := [.int (Int32.ofInt 1)]) (ykc_214 (e := (4, .goto 4, 109)) rfl) rfl ?_
                refine w_store (pc' := 110) (L' := [some (.ref 170), some (.int x), some (.int (Int32.ofInt 1)), some (.int (zn k9))]) (st' := []) (m := 1) (ykc_214 (e := (3, .istore_n kF2, 0)) rfl) rfl rfl ?_
                refine w_gb (ykc_214 (e := (4, .goto (-86), 24)) rfl) (fun k1656 hk1656 => ?_)
                have hab3 := hT3.2.2.1
                have hR5 : zRc ph1654 (zop (t a1) :: cs3) := by rw [e8, show 2003 + k9 = 2000 + k9 + 3 by omega]; exact hR4
                have hT5 := zTm_F fc (by simp) (by simp) (by simp) hT3
                have h175 := (fc.1 170 17 (by decide) (by decide)).trans (h173 rfl)
                have hl5 : (zop (t a1) :: cs3).length + a ≤ cs.length + a3 := by show cs3.length + 1 + a ≤ _; omega
                exact ih k1656 hk1656 _ a3 (zop (t a1) :: cs3) _ ((show zRF ph ph1654 from (zFr_trans (zFr_trans (zFr_trans (zFr_mono f1 (by simp) (by simp)) (zFr_mono f2 (by simp) (by simp))) (zFr_mono f3 (by simp) (by simp))) (zFr_mono fc (by simp) (by simp))))) hT5 h175 hR5 (by omega) hl5 (fun g y h => by
                  obtain ⟨g9, hg9⟩ := zde_lt (r := 1) (by decide) ⟨ha9, e7⟩ hz3 h
                  exact hcon _ _ hg9)
            
          · have tm1 : (Int32.ofInt (-1)).toInt = -1 := by decide
            have hno : ¬ (a1 < b ∧ zrk2 1 (t a1) = true) := fun q => by
              obtain ⟨k, hk, e⟩ := zrk_c.2.1 q.2
              exact hn9 q.1 k hk e.symm
            show zW n D 214 Q 53 [some (.ref 170), some (.int x), some (.int (Int32.ofInt 1)), o9] [.int (Int32.ofInt (-1))] ph1642
            refine w_store (pc' := 54) (L' := [some (.ref 170), some (.int x), some (.int (Int32.ofInt 1)), some (.int (Int32.ofInt (-1)))]) (st' := []) (m := 1) (ykc_214 (e := (3, .istore_n kF3, 0)) rfl) rfl rfl ?_
            refine w_load (pc' := 55) (v := .int (Int32.ofInt (-1))) (m := 1) (ykc_214 (e := (2, .iload_n kF3, 0)) rfl) rfl rfl ?_
            refine w_zge (ykc_214 (e := (4, .ifCond .ge 5, 60)) rfl) rfl (fun q => by exfalso; omega) (fun b1657 => ?_)
            refine w_alu (pc' := 59) (st' := [.int (Int32.ofInt 1)]) (ykc_214 (e := (0, .iconst 1, 0)) rfl) rfl rfl ?_
            refine w_ret (v := (some (.int (Int32.ofInt 1)))) (ykc_214 (e := (7, .ireturn, 0)) rfl) zr_z ?_
            rw [hQ, zi1]
            obtain ⟨g9, hg9⟩ := hcon _ _ (zde_l0 hno)
            exact ⟨(show zRF ph ph1642 from (zFr_trans (zFr_mono f1 (by simp) (by simp)) (zFr_mono f2 (by simp) (by simp)))), g9, true, a1, cs1, hg9, rfl, hT2, zRc_F f2 (by simp) (by simp) hR1, fun _ => (f2.1 170 17 (by decide) (by decide)).trans h171, ha1, hl1⟩
          
      exact hl9 n _ a1 cs1 _ f1 hT1 (h171 rfl) hR1 ha1 hl1 (fun g y h => zde_rt (by decide) hz1 h)
      
  
theorem zm_rankD0 {b ln : Nat} {t : Nat → Nat} {D : Nat} (ih : zIHr b ln t D) (hb40 : b ≤ 40) {ph : pm_H} {a ns : Nat} {cs : List Nat} (hS : zSh ph) (hp : zRp b ln t ph a ns cs) (hns : ns ≤ 4) (hl : cs.length ≤ a) {x : Int32} (hx : x.toInt = ((0 : Nat) : Int)) : zMD (D + 1) 214 [.ref 170, .int x] ph (zRq b ln t 0 a ns cs ph) := by
  obtain ⟨Q, hQ⟩ : ∃ Q : Option Value → pm_H → Prop, Q = (zRq b ln t 0 a ns cs ph) := ⟨_, rfl⟩
  rw [← hQ]
  refine zMD_mk fun n => ?_
  show zW n D 214 Q 0 [some (.ref 170), some (.int x), none, none] [] ph
  have c_0 : ((Int16.ofInt 2000).toInt32).toInt = 2000 := by decide
  have c_1 : (Int32.ofInt 0).toInt = 0 := by decide
  have c_2 : (Int32.ofInt 1).toInt = 1 := by decide
  have c_3 : (Int32.ofInt 3).toInt = 3 := by decide
  have c_4 : (Int32.ofInt 5).toInt = 5 := by decide
  have ihr := ih
  obtain ⟨hT, h17, hR⟩ := hp
  have hab := hT.2.2.1
  refine w_load (pc' := 1) (v := .int x) (m := 1) (ykc_214 (e := (2, .iload_n kF1, 0)) rfl) rfl rfl ?_
  refine w_alu (pc' := 2) (st' := [.int (Int32.ofInt 3), .int x]) (ykc_214 (e := (0, .iconst 3, 0)) rfl) rfl rfl ?_
  refine w_ine (ykc_214 (e := (4, .if_icmp .ne 8, 10)) rfl) rfl (fun b1658 => ?_) (fun q => by exfalso; omega)
  refine w_load (pc' := 11) (v := .ref 170) (m := 1) (ykc_214 (e := (2, .aload_n kF0, 0)) rfl) rfl rfl ?_
  refine w_load (pc' := 12) (v := .int x) (m := 1) (ykc_214 (e := (2, .iload_n kF1, 0)) rfl) rfl rfl ?_
  refine w_alu (pc' := 13) (st' := [.int (Int32.ofInt 1), .int x, .ref 170]) (ykc_214 (e := (0, .iconst 1, 0)) rfl) rfl rfl ?_
  have e1659 : x + (Int32.ofInt 1) = zn (1) := (zaddN (a := 0) (b := 1) (by omega) c_2 (by omega)) 
  have te1659 := znt (k := 1) (by omega)
  refine w_alu (pc' := 14) (st' := [.int (zn (1)), .ref 170]) (ykc_214 (e := (0, .iadd, 0)) rfl) (by rw [← e1659]; rfl) rfl ?_
  refine w_cvD (as := [.ref 170, .int (zn (1))]) (r := []) (ykc_214 (e := (6, .invokevirtual 239, 0)) rfl) rfl rfl rfl rfl (ihr.2 _ 1 _ a ns cs hS (by first | exact znt (by decide) | omega) (by decide) ⟨hT, h17, hR⟩ hns hl) (fun v1660 ph1661 hv => ?_)
  rcases hv with ⟨f1, g1, ok1, a1, cs1, hz1, rfl, hT1, hR1, h171, ha1, hl1⟩
  · cases ok1 with
    | false =>
      show zW n D 214 Q 17 [some (.ref 170), some (.int x), none, none] [.int (zI false)] ph1661
      refine w_bne (ykc_214 (e := (4, .ifCond .ne 5, 22)) rfl) rfl (fun q => absurd q (by decide)) (fun b1662 => ?_)
      refine w_alu (pc' := 21) (st' := [.int (Int32.ofInt 0)]) (ykc_214 (e := (0, .iconst 0, 0)) rfl) rfl rfl ?_
      refine w_ret (v := (some (.int (Int32.ofInt 0)))) (ykc_214 (e := (7, .ireturn, 0)) rfl) zr_z ?_
      rw [hQ, zi0]
      refine ⟨f1, g1 + 1, false, a1, cs1, zde_rf (by decide) hz1, rfl, hT1, hR1, fun h => absurd h (by decide), ha1, hl1⟩
    | true =>
      show zW n D 214 Q 17 [some (.ref 170), some (.int x), none, none] [.int (zI true)] ph1661
      refine w_bne (ykc_214 (e := (4, .ifCond .ne 5, 22)) rfl) rfl (fun b1663 => ?_) (fun q => absurd q (by decide))
      refine w_alu (pc' := 23) (st' := [.int (Int32.ofInt 1)]) (ykc_214 (e := (0, .iconst 1, 0)) rfl) rfl rfl ?_
      refine w_store (pc' := 24) (L' := [some (.ref 170), some (.int x), some (.int (Int32.ofInt 1)), none]) (st' := []) (m := 1) (ykc_214 (e := (3, .istore_n kF2, 0)) rfl) rfl rfl ?_
      have hl9 : ∀ (n : Nat), ∀ (p : pm_H) (a1 : Nat) (cs1 : List Nat) (o9 : Option Value), (zRF ph p) → (zTm p a1 b ln t) → (zc p 170 17 = some (.int (zn ns))) → (zRc p cs1) → (a ≤ a1) → (cs1.length + a ≤ cs.length + a1) → (∀ g y, zde b t g 4 a1 ns cs1 = some y → ∃ f, zde b t f 0 a ns cs = some y) → zW n D 214 Q 24 [some (.ref 170), some (.int x), some (.int (Int32.ofInt 1)), o9] [] p := by
        intro n
        induction n using Nat.strongRecOn with
        | ind n ih =>
          intro p a1 cs1 o9 f1 hT1 h171 hR1 ha1 hl1 hcon
          have hab1 := hT1.2.2.1
          refine w_load (pc' := 25) (v := .int (Int32.ofInt 1)) (m := 1) (ykc_214 (e := (2, .iload_n kF2, 0)) rfl) rfl rfl ?_
          refine w_zeq (ykc_214 (e := (4, .ifCond .eq 88, 113)) rfl) rfl (fun q => by exfalso; omega) (fun b1664 => ?_)
          refine w_load (pc' := 29) (v := .ref 170) (m := 1) (ykc_214 (e := (2, .aload_n kF0, 0)) rfl) rfl rfl ?_
          refine w_load (pc' := 30) (v := .int x) (m := 1) (ykc_214 (e := (2, .iload_n kF1, 0)) rfl) rfl rfl ?_
          refine w_zne (ykc_214 (e := (4, .ifCond .ne 8, 38)) rfl) rfl (fun q => by exfalso; omega) (fun b1665 => ?_)
          refine w_push (pc' := 35) (v := .ref 1048629) (m := 2) (ykc_214 (e := (1, .ldc 242, 0)) rfl) rfl rfl ?_
          refine w_br (pc' := 50) (st' := [.ref 1048629, .ref 170]) (ykc_214 (e := (4, .goto 15, 50)) rfl) rfl ?_
          refine w_cv (as := [.ref 170, .ref 1048629]) (r := []) (ykc_214 (e := (6, .invokevirtual 184, 0)) rfl) rfl rfl rfl rfl (zm_takesOf (zRF_S ((show zRF ph p from (zFr_mono f1 (by simp) (by simp)))) hS) hT1 zstr_cmp) (fun v1666 ph1667 hv => ?_)
          rcases hv with ⟨f2, ⟨k9, hk9, ha9, hc9, rfl, hT2⟩ | ⟨hn9, rfl, hT2⟩⟩
          · have tk9 := znt (k := k9) (by omega)
            have e8 : zop (t a1) = 2000 + k9 := by rw [hc9]; exact (zrk_a.1 k9 hk9).2
            have e7 : zrk2 0 (t a1) = true := by rw [hc9]; exact (zrk_a.1 k9 hk9).1
            show zW n D 214 Q 53 [some (.ref 170), some (.int x), some (.int (Int32.ofInt 1)), o9] [.int (zn k9)] ph1667
            refine w_store (pc' := 54) (L' := [some (.ref 170), some (.int x), some (.int (Int32.ofInt 1)), some (.int (zn k9))]) (st' := []) (m := 1) (ykc_214 (e := (3, .istore_n kF3, 0)) rfl) rfl rfl ?_
            refine w_load (pc' := 55) (v := .int (zn k9)) (m := 1) (ykc_214 (e := (2, .iload_n kF3, 0)) rfl) rfl rfl ?_
            refine w_zge (ykc_214 (e := (4, .ifCond .ge 5, 60)) rfl) rfl (fun b1668 => ?_) (fun q => by exfalso; omega)
            refine w_load (pc' := 61) (v := .ref 170) (m := 1) (ykc_214 (e := (2, .aload_n kF0, 0)) rfl) rfl rfl ?_
            refine w_load (pc' := 62) (v := .int x) (m := 1) (ykc_214 (e := (2, .iload_n kF1, 0)) rfl) rfl rfl ?_
            refine w_alu (pc' := 63) (st' := [.int (Int32.ofInt 1), .int x, .ref 170]) (ykc_214 (e := (0, .iconst 1, 0)) rfl) rfl rfl ?_
            have e1669 : x + (Int32.ofInt 1) = zn (1) := (zaddN (a := 0) (b := 1) (by omega) c_2 (by omega)) 
            have te1669 := znt (k := 1) (by omega)
            refine w_alu (pc' := 64) (st' := [.int (zn (1)), .ref 170]) (ykc_214 (e := (0, .iadd, 0)) rfl) (by rw [← e1669]; rfl) rfl ?_
            refine w_cvD (as := [.ref 170, .int (zn (1))]) (r := []) (ykc_214 (e := (6, .invokevirtual 239, 0)) rfl) rfl rfl rfl rfl (ihr.2 _ 1 _ (a1 + 1) ns cs1 (zRF_S ((show zRF ph ph1667 from (zFr_trans (zFr_mono f1 (by simp) (by simp)) (zFr_mono f2 (by simp) (by simp))))) hS) (by first | exact znt (by decide) | omega) (by decide) ⟨hT2, (f2.1 170 17 (by decide) (by decide)).trans h171, zRc_F f2 (by simp) (by simp) hR1⟩ hns (by omega)) (fun v1670 ph1671 hv => ?_)
            rcases hv with ⟨f3, g3, ok3, a3, cs3, hz3, rfl, hT3, hR3, h173, ha3, hl3⟩
            · cases ok3 with
              | false =>
                show zW n D 214 Q 67 [some (.ref 170), some (.int x), some (.int (Int32.ofInt 1)), some (.int (zn k9))] [.int (zI false)] ph1671
                refine w_bne (ykc_214 (e := (4, .ifCond .ne 5, 72)) rfl) rfl (fun q => absurd q (by decide)) (fun b1672 => ?_)
                refine w_alu (pc' := 71) (st' := [.int (Int32.ofInt 0)]) (ykc_214 (e := (0, .iconst 0, 0)) rfl) rfl rfl ?_
                refine w_ret (v := (some (.int (Int32.ofInt 0)))) (ykc_214 (e := (7, .ireturn, 0)) rfl) zr_z ?_
                rw [hQ, zi0]
                obtain ⟨g9, hg9⟩ := hcon _ _ (zde_lf (r := 0) ⟨ha9, e7⟩ hz3)
                exact ⟨(show zRF ph ph1671 from (zFr_trans (zFr_trans (zFr_mono f1 (by simp) (by simp)) (zFr_mono f2 (by simp) (by simp))) (zFr_mono f3 (by simp) (by simp)))), g9, false, a3, cs3, hg9, rfl, hT3, hR3, fun h => absurd h (by decide), by omega, by omega⟩
              | true =>
                show zW n D 214 Q 67 [some (.ref 170), some (.int x), some (.int (Int32.ofInt 1)), some (.int (zn k9))] [.int (zI true)] ph1671
                have hb3 := hT3.2.2.1
                refine w_bne (ykc_214 (e := (4, .ifCond .ne 5, 72)) rfl) rfl (fun b1673 => ?_) (fun q => absurd q (by decide))
                refine w_load (pc' := 73) (v := .ref 170) (m := 1) (ykc_214 (e := (2, .aload_n kF0, 0)) rfl) rfl rfl ?_
                refine w_push (pc' := 76) (v := .int ((Int16.ofInt 2000).toInt32)) (m := 3) (ykc_214 (e := (1, .sipush 2000, 0)) rfl) rfl rfl ?_
                refine w_load (pc' := 77) (v := .int (zn k9)) (m := 1) (ykc_214 (e := (2, .iload_n kF3, 0)) rfl) rfl rfl ?_
                have e1674 : ((Int16.ofInt 2000).toInt32) + (zn k9) = zn (2000 + k9) := (zaddN (a := 2000) (b := k9) c_0 (znt (by omega)) (by omega)) 
                have te1674 := znt (k := 2000 + k9) (by omega)
                refine w_alu (pc' := 78) (st' := [.int (zn (2000 + k9)), .ref 170]) (ykc_214 (e := (0, .iadd, 0)) rfl) (by rw [← e1674]; rfl) rfl ?_
                refine w_load (pc' := 79) (v := .int x) (m := 1) (ykc_214 (e := (2, .iload_n kF1, 0)) rfl) rfl rfl ?_
                refine w_zne (ykc_214 (e := (4, .ifCond .ne 7, 86)) rfl) rfl (fun q => by exfalso; omega) (fun b1675 => ?_)
                refine w_alu (pc' := 83) (st' := [.int (Int32.ofInt 0), .int (zn (2000 + k9)), .ref 170]) (ykc_214 (e := (0, .iconst 0, 0)) rfl) rfl rfl ?_
                refine w_br (pc' := 96) (st' := [.int (Int32.ofInt 0), .int (zn (2000 + k9)), .ref 170]) (ykc_214 (e := (4, .goto 13, 96)) rfl) rfl ?_
                have e1676 : (zn (2000 + k9)) + (Int32.ofInt 0) = zn (2000 + k9 + 0) := (zaddN (a := 2000 + k9) (b := 0) (znt (by omega)) c_1 (by omega)) 
                have te1676 := znt (k := 2000 + k9 + 0) (by omega)
                refine w_alu (pc' := 97) (st' := [.int (zn (2000 + k9 + 0)), .ref 170]) (ykc_214 (e := (0, .iadd, 0)) rfl) (by rw [← e1676]; rfl) rfl ?_
                refine w_cv (as := [.ref 170, .int (zn (2000 + k9 + 0))]) (r := []) (ykc_214 (e := (6, .invokevirtual 233, 0)) rfl) rfl rfl rfl rfl (zm_codes (c := 2000 + k9 + 0) (zRF_S ((show zRF ph ph1671 from (zFr_trans (zFr_trans (zFr_mono f1 (by simp) (by simp)) (zFr_mono f2 (by simp) (by simp))) (zFr_mono f3 (by simp) (by simp))))) hS) hR3 (by first | rfl | (apply congrArg zn; omega)) (by omega) (by omega)) (fun v1677 ph1678 hv => ?_)
                obtain ⟨rfl, fc, hR4⟩ := hv
                show zW n D 214 Q 100 [some (.ref 170), some (.int x), some (.int (Int32.ofInt 1)), some (.int (zn k9))] [] ph1678
                refine w_load (pc' := 101) (v := .int x) (m := 1) (ykc_214 (e := (2, .iload_n kF1, 0)) rfl) rfl rfl ?_
                refine w_zle (ykc_214 (e := (4, .ifCond .le 7, 108)) rfl) rfl (fun b1679 => ?_) (fun q => by exfalso; omega)
                refine w_alu (pc' := 109) (st' := [.int (Int32.ofInt 0)]) (ykc_214 (e := (0, .iconst 0, 0)) rfl) rfl rfl ?_
                refine w_store (pc' := 110) (L' := [some (.ref 170), some (.int x), some (.int (Int32.ofInt 0)), some (.int (zn k9))]) (st' := []) (m := 1) (ykc_214 (e := (3, .istore_n kF2, 0)) rfl) rfl rfl ?_
                refine w_gb (ykc_214 (e := (4, .goto (-86), 24)) rfl) (fun k1680 hk1680 => ?_)
                have hab3 := hT3.2.2.1
                have hR5 : zRc ph1678 (zop (t a1) :: cs3) := by rw [e8, show 2000 + k9 = 2000 + k9 + 0 by omega]; exact hR4
                have hT5 := zTm_F fc (by simp) (by simp) (by simp) hT3
                have h175 := (fc.1 170 17 (by decide) (by decide)).trans (h173 rfl)
                have hl5 : (zop (t a1) :: cs3).length + a ≤ cs.length + a3 := by show cs3.length + 1 + a ≤ _; omega
                refine w_load (pc' := 25) (v := .int (Int32.ofInt 0)) (m := 1) (ykc_214 (e := (2, .iload_n kF2, 0)) rfl) rfl rfl ?_
                refine w_zeq (ykc_214 (e := (4, .ifCond .eq 88, 113)) rfl) rfl (fun b1681 => ?_) (fun q => absurd q (by decide))
                refine w_alu (pc' := 114) (st' := [.int (Int32.ofInt 1)]) (ykc_214 (e := (0, .iconst 1, 0)) rfl) rfl rfl ?_
                refine w_ret (v := (some (.int (Int32.ofInt 1)))) (ykc_214 (e := (7, .ireturn, 0)) rfl) zr_z ?_
                rw [hQ, zi1]
                obtain ⟨g9, hg9⟩ := hcon _ _ (zde_l1 ⟨ha9, e7⟩ hz3)
                exact ⟨(show zRF ph ph1678 from (zFr_trans (zFr_trans (zFr_trans (zFr_mono f1 (by simp) (by simp)) (zFr_mono f2 (by simp) (by simp))) (zFr_mono f3 (by simp) (by simp))) (zFr_mono fc (by simp) (by simp)))), g9, true, a3, _, hg9, rfl, hT5, hR5, fun _ => h175, by omega, hl5⟩
            
          · have tm1 : (Int32.ofInt (-1)).toInt = -1 := by decide
            have hno : ¬ (a1 < b ∧ zrk2 0 (t a1) = true) := fun q => by
              obtain ⟨k, hk, e⟩ := zrk_c.1 q.2
              exact hn9 q.1 k hk e.symm
            show zW n D 214 Q 53 [some (.ref 170), some (.int x), some (.int (Int32.ofInt 1)), o9] [.int (Int32.ofInt (-1))] ph1667
            refine w_store (pc' := 54) (L' := [some (.ref 170), some (.int x), some (.int (Int32.ofInt 1)), some (.int (Int32.ofInt (-1)))]) (st' := []) (m := 1) (ykc_214 (e := (3, .istore_n kF3, 0)) rfl) rfl rfl ?_
            refine w_load (pc' := 55) (v := .int (Int32.ofInt (-1))) (m := 1) (ykc_214 (e := (2, .iload_n kF3, 0)) rfl) rfl rfl ?_
            refine w_zge (ykc_214 (e := (4, .ifCond .ge 5, 60)) rfl) rfl (fun q => by exfalso; omega) (fun b1682 => ?_)
            refine w_alu (pc' := 59) (st' := [.int (Int32.ofInt 1)]) (ykc_214 (e := (0, .iconst 1, 0)) rfl) rfl rfl ?_
            refine w_ret (v := (some (.int (Int32.ofInt 1)))) (ykc_214 (e := (7, .ireturn, 0)) rfl) zr_z ?_
            rw [hQ, zi1]
            obtain ⟨g9, hg9⟩ := hcon _ _ (zde_l0 hno)
            exact ⟨(show zRF ph ph1667 from (zFr_trans (zFr_mono f1 (by simp) (by simp)) (zFr_mono f2 (by simp) (by simp)))), g9, true, a1, cs1, hg9, rfl, hT2, zRc_F f2 (by simp) (by simp) hR1, fun _ => (f2.1 170 17 (by decide) (by decide)).trans h171, ha1, hl1⟩
          
      exact hl9 n _ a1 cs1 _ f1 hT1 (h171 rfl) hR1 ha1 hl1 (fun g y h => zde_rt (by decide) hz1 h)
      
  
theorem zIHr_all {b ln : Nat} {t : Nat → Nat} (hb40 : b ≤ 40) : ∀ D, zIHr b ln t D
  | 0 => ⟨fun _ _ _ _ _ _ _ _ _ hr => hr.elim, fun _ _ _ _ _ _ _ _ _ _ _ _ _ hr => hr.elim⟩
  | D + 1 => by
    have ih := zIHr_all (ln := ln) (t := t) hb40 D
    refine ⟨fun ph a ns cs h1 h2 h3 h4 => zm_askD ih hb40 h1 h2 h3 h4, fun ph r x a ns cs h1 hx hr h2 h3 h4 => ?_⟩
    rcases (show r = 0 ∨ r = 1 ∨ r = 2 ∨ r = 3 by omega) with e | e | e | e <;> subst e
    · exact zm_rankD0 ih hb40 h1 h2 h3 h4 hx
    · exact zm_rankD1 ih hb40 h1 h2 h3 h4 hx
    · exact zm_rankD2 ih hb40 h1 h2 h3 h4 hx
    · exact zm_rankD3 ih hb40 h1 h2 h3 h4 hx
theorem zm_rank0 {b ln : Nat} {t : Nat → Nat} (hb40 : b ≤ 40) {ph : pm_H} {x : Int32} (hS : zSh ph) (hx : x.toInt = ((0 : Nat) : Int)) (hp : zRp b ln t ph 0 0 []) : zM 214 [.ref 170, .int x] ph (zRq b ln t 0 0 0 [] ph) := fun D r hr => (zIHr_all hb40 D).2 ph 0 x 0 0 [] hS hx (by decide) hp (by decide) (by decide) r hr
/-- what the reference's reading of a RULE comes to: well or not, up to where, codes -/
def zRu (ln : Nat) (t : Nat → Nat) (ok : Bool) (a2 : Nat) (cs2 : List Nat) : Prop := (ln = 0 ∧ ok = true ∧ a2 = 0 ∧ cs2 = []) ∨ (0 < ln ∧ a2 ≤ min ln 40 ∧ ∃ f, zde (min ln 40) t f 0 0 0 [] = some (ok, a2, cs2))
theorem zm_beginsN {ph : pm_H} {ln c : Nat} {t : Nat → Nat} {y : Int32} (hS : zSh ph) (hn : zc ph 170 14 = some (.int (zn ln))) (hn80 : ln ≤ 80) (gt : ∀ i, i < ln → zc ph 176 i = some (.int (zn (t i))) ∧ t i < 256) (hy : y.toInt = (c : Int)) (hc : c ≤ 80) : zM 195 [.ref 170, .int y] ph (fun v q => v = some (.int (zn ln)) ∧ zFr [] [(170, 14), (170, 15), (170, 16), (170, 17)] ph q ∧ zc q 170 14 = some (.int (zn 0)) ∧ zc q 170 17 = some (.int (zn 0)) ∧ zTm q 0 (min ln c) ln t) := by
  obtain ⟨Q, hQ⟩ : ∃ Q : Option Value → pm_H → Prop, Q = (fun v q => v = some (.int (zn ln)) ∧ zFr [] [(170, 14), (170, 15), (170, 16), (170, 17)] ph q ∧ zc q 170 14 = some (.int (zn 0)) ∧ zc q 170 17 = some (.int (zn 0)) ∧ zTm q 0 (min ln c) ln t) := ⟨_, rfl⟩
  rw [← hQ]
  refine zM_mk fun n D => ?_
  show zW n D 195 Q 0 [some (.ref 170), some (.int y), none] [] ph
  have c_0 : (Int32.ofInt 0).toInt = 0 := by decide
  have tn := znt (k := ln) (by omega)
  refine w_load (pc' := 1) (v := .ref 170) (m := 1) (ykc_195 (e := (2, .aload_n kF0, 0)) rfl) rfl rfl ?_
  refine w_gf (pc' := 4) (v := .int (zn ln)) (ykc_195 (e := (5, .getfield 136, 0)) rfl) rfl hn rfl ?_
  refine w_store (pc' := 5) (L' := [some (.ref 170), some (.int y), some (.int (zn ln))]) (st' := []) (m := 1) (ykc_195 (e := (3, .istore_n kF2, 0)) rfl) rfl rfl ?_
  refine w_load (pc' := 6) (v := .ref 170) (m := 1) (ykc_195 (e := (2, .aload_n kF0, 0)) rfl) rfl rfl ?_
  refine w_alu (pc' := 7) (st' := [.int (Int32.ofInt 0), .ref 170]) (ykc_195 (e := (0, .iconst 0, 0)) rfl) rfl rfl ?_
  refine w_pf (pc' := 10) (ykc_195 (e := (5, .putfield 136, 0)) rfl) rfl rfl (fun ph1684 u1683 => ?_)
  refine w_load (pc' := 11) (v := .ref 170) (m := 1) (ykc_195 (e := (2, .aload_n kF0, 0)) rfl) rfl rfl ?_
  refine w_alu (pc' := 12) (st' := [.int (Int32.ofInt 0), .ref 170]) (ykc_195 (e := (0, .iconst 0, 0)) rfl) rfl rfl ?_
  refine w_pf (pc' := 15) (ykc_195 (e := (5, .putfield 139, 0)) rfl) rfl rfl (fun ph1686 u1685 => ?_)
  refine w_load (pc' := 16) (v := .ref 170) (m := 1) (ykc_195 (e := (2, .aload_n kF0, 0)) rfl) rfl rfl ?_
  refine w_alu (pc' := 17) (st' := [.int (Int32.ofInt 0), .ref 170]) (ykc_195 (e := (0, .iconst 0, 0)) rfl) rfl rfl ?_
  refine w_pf (pc' := 20) (ykc_195 (e := (5, .putfield 142, 0)) rfl) rfl rfl (fun ph1688 u1687 => ?_)
  refine w_load (pc' := 21) (v := .ref 170) (m := 1) (ykc_195 (e := (2, .aload_n kF0, 0)) rfl) rfl rfl ?_
  refine w_load (pc' := 22) (v := .int (zn ln)) (m := 1) (ykc_195 (e := (2, .iload_n kF2, 0)) rfl) rfl rfl ?_
  refine w_load (pc' := 23) (v := .int y) (m := 1) (ykc_195 (e := (2, .iload_n kF1, 0)) rfl) rfl rfl ?_
  obtain ⟨z1689, e_z1689⟩ : ∃ zq : Int32, (if y < (zn ln) then y else (zn ln)) = zq := ⟨_, rfl⟩
  have h_z1689 := zminI e_z1689
  have n_z1689 : z1689.toInt = ((min ln c : Nat) : Int) := by omega
  refine w_mem1 (pc' := 26) (m := 3) (st' := [.int z1689, .ref 170]) (ph' := ph1688) (ykc_195 (e := (5, .invokestatic 145, 0)) rfl) (by rw [← e_z1689]; rfl) rfl ?_
  refine w_pf (pc' := 29) (ykc_195 (e := (5, .putfield 151, 0)) rfl) rfl rfl (fun ph1691 u1690 => ?_)
  refine w_load (pc' := 30) (v := .int (zn ln)) (m := 1) (ykc_195 (e := (2, .iload_n kF2, 0)) rfl) rfl rfl ?_
  refine w_ret (v := (some (.int (zn ln)))) (ykc_195 (e := (7, .ireturn, 0)) rfl) (zr_v rfl) ?_
  rw [hQ]
  have ez : z1689 = zn (min ln c) := zn_of (by omega)
  have f4 : zFr [] [(170, 14), (170, 15), (170, 16), (170, 17)] ph ph1691 := zFr_trans (zFr_st u1683 (Or.inr (by simp))) (zFr_trans (zFr_st u1685 (Or.inr (by simp))) (zFr_trans (zFr_st u1687 (Or.inr (by simp))) (zFr_st u1690 (Or.inr (by simp)))))
  exact ⟨rfl, f4, ((u1690.2.1 170 14 (fun q => absurd q.2 (by decide))).trans ((u1687.2.1 170 14 (fun q => absurd q.2 (by decide))).trans ((u1685.2.1 170 14 (fun q => absurd q.2 (by decide))).trans u1683.1))), ((u1690.2.1 170 17 (fun q => absurd q.2 (by decide))).trans u1687.1), ((u1690.2.1 170 15 (fun q => absurd q.2 (by decide))).trans ((u1687.2.1 170 15 (fun q => absurd q.2 (by decide))).trans u1685.1)), by rw [← ez]; exact u1690.1, Nat.zero_le _, Nat.min_le_left _ _, hn80, fun i hi => ⟨(f4.1 _ _ (by decide) (by simp)).trans (gt i hi).1, (gt i hi).2⟩⟩
theorem zm_rulesRead {ph : pm_H} {ln : Nat} {t : Nat → Nat} (hS : zSh ph) (hn : zc ph 170 14 = some (.int (zn ln))) (hn80 : ln ≤ 80) (gt : ∀ i, i < ln → zc ph 176 i = some (.int (zn (t i))) ∧ t i < 256) : zM 215 [.ref 170] ph (fun v0 q => zFr [180] [(170, 14), (170, 15), (170, 16), (170, 17), (170, 24)] ph q ∧ zc q 170 14 = some (.int (zn 0)) ∧ ∃ (ok : Bool) (a2 : Nat) (cs2 : List Nat) (z : Int32), zRu ln t ok a2 cs2 ∧ zRc q cs2 ∧ cs2.length ≤ 40 ∧ v0 = some (.int z) ∧ z.toInt = zFo ln 40 a2 (min ln 40) ok) := by
  obtain ⟨Q, hQ⟩ : ∃ Q : Option Value → pm_H → Prop, Q = (fun v0 q => zFr [180] [(170, 14), (170, 15), (170, 16), (170, 17), (170, 24)] ph q ∧ zc q 170 14 = some (.int (zn 0)) ∧ ∃ (ok : Bool) (a2 : Nat) (cs2 : List Nat) (z : Int32), zRu ln t ok a2 cs2 ∧ zRc q cs2 ∧ cs2.length ≤ 40 ∧ v0 = some (.int z) ∧ z.toInt = zFo ln 40 a2 (min ln 40) ok) := ⟨_, rfl⟩
  rw [← hQ]
  refine zM_mk fun n D => ?_
  show zW n D 215 Q 0 [some (.ref 170), none, none] [] ph
  have c_0 : ((Int8.ofInt 40).toInt32).toInt = 40 := by decide
  have c_1 : (Int32.ofInt 0).toInt = 0 := by decide
  have c_2 : (Int32.ofInt 1).toInt = 1 := by decide
  have tn := znt (k := ln) (by omega)
  have tz0 := znt (k := 0) (by omega)
  refine w_load (pc' := 1) (v := .ref 170) (m := 1) (ykc_215 (e := (2, .aload_n kF0, 0)) rfl) rfl rfl ?_
  refine w_push (pc' := 3) (v := .int ((Int8.ofInt 40).toInt32)) (m := 2) (ykc_215 (e := (1, .bipush 40, 0)) rfl) rfl rfl ?_
  refine w_cv (as := [.ref 170, .int ((Int8.ofInt 40).toInt32)]) (r := []) (ykc_215 (e := (6, .invokevirtual 175, 0)) rfl) rfl rfl rfl rfl (zm_beginsN (c := 40) hS hn hn80 gt (by decide) (by decide)) (fun v1692 ph1693 hv => ?_)
  obtain ⟨rfl, f1, h14, h17, hT⟩ := hv
  show zW n D 215 Q 6 [some (.ref 170), none, none] [.int (zn ln)] ph1693
  refine w_store (pc' := 7) (L' := [some (.ref 170), some (.int (zn ln)), none]) (st' := []) (m := 1) (ykc_215 (e := (3, .istore_n kF1, 0)) rfl) rfl rfl ?_
  refine w_load (pc' := 8) (v := .ref 170) (m := 1) (ykc_215 (e := (2, .aload_n kF0, 0)) rfl) rfl rfl ?_
  refine w_alu (pc' := 9) (st' := [.int (Int32.ofInt 0), .ref 170]) (ykc_215 (e := (0, .iconst 0, 0)) rfl) rfl rfl ?_
  refine w_pf (pc' := 12) (ykc_215 (e := (5, .putfield 227, 0)) rfl) rfl rfl (fun ph1695 u1694 => ?_)
  have fu : zFr [] [(170, 24)] _ ph1695 := zFr_st u1694 (Or.inr (by simp))
  have hT1 := zTm_F fu (by simp) (by simp) (by simp) hT
  have hR1 : zRc ph1695 [] := ⟨u1694.1, fun i c h => by cases h⟩
  have h14a := (fu.1 170 14 (by decide) (by decide)).trans h14
  have h17a := (fu.1 170 17 (by decide) (by decide)).trans h17
  refine w_load (pc' := 13) (v := .int (zn ln)) (m := 1) (ykc_215 (e := (2, .iload_n kF1, 0)) rfl) rfl rfl ?_
  refine w_zeq (ykc_215 (e := (4, .ifCond .eq 11, 24)) rfl) rfl (fun b1696 => ?_) (fun b1696 => ?_)
  · refine w_alu (pc' := 25) (st' := [.int (Int32.ofInt 1)]) (ykc_215 (e := (0, .iconst 1, 0)) rfl) rfl rfl ?_
    refine w_br (pc' := 29) (st' := [.int (Int32.ofInt 1)]) (ykc_215 (e := (4, .goto 4, 29)) rfl) rfl ?_
    refine w_store (pc' := 30) (L' := [some (.ref 170), some (.int (zn ln)), some (.int (Int32.ofInt 1))]) (st' := []) (m := 1) (ykc_215 (e := (3, .istore_n kF2, 0)) rfl) rfl rfl ?_
    refine w_load (pc' := 31) (v := .ref 170) (m := 1) (ykc_215 (e := (2, .aload_n kF0, 0)) rfl) rfl rfl ?_
    refine w_load (pc' := 32) (v := .int (zn ln)) (m := 1) (ykc_215 (e := (2, .iload_n kF1, 0)) rfl) rfl rfl ?_
    refine w_push (pc' := 34) (v := .int ((Int8.ofInt 40).toInt32)) (m := 2) (ykc_215 (e := (1, .bipush 40, 0)) rfl) rfl rfl ?_
    refine w_load (pc' := 35) (v := .int (Int32.ofInt 1)) (m := 1) (ykc_215 (e := (2, .iload_n kF2, 0)) rfl) rfl rfl ?_
    refine w_cv (as := [.ref 170, .int (zn ln), .int ((Int8.ofInt 40).toInt32), .int (Int32.ofInt 1)]) (r := []) (ykc_215 (e := (6, .invokevirtual 213, 0)) rfl) rfl rfl rfl rfl (zm_fault (is := true) (n9 := ln) (c := 40) (zSh_F (show zFr [180] [(170, 14), (170, 15), (170, 16), (170, 17), (170, 24)] ph ph1695 from (zFr_trans (zFr_mono f1 (by simp) (by simp)) (zFr_st u1694 (Or.inr (by simp))))) (by decide +kernel) hS) hT1 (by omega) (by decide)) (fun v1697 ph1698 hv => ?_)
    rcases hv with ⟨rfl, z9, rfl, hz9⟩
    · show zW n D 215 Q 38 [some (.ref 170), some (.int (zn ln)), some (.int (Int32.ofInt 1))] [.int z9] ph1695
      refine w_ret (v := (some (.int z9))) (ykc_215 (e := (7, .ireturn, 0)) rfl) (zr_v rfl) ?_
      rw [hQ]
      exact ⟨(show zFr [180] [(170, 14), (170, 15), (170, 16), (170, 17), (170, 24)] ph ph1695 from (zFr_trans (zFr_mono f1 (by simp) (by simp)) (zFr_st u1694 (Or.inr (by simp))))), h14a, true, 0, [], _, Or.inl ⟨by omega, rfl, rfl, rfl⟩, hR1, by decide, rfl, hz9⟩
    
  · refine w_load (pc' := 17) (v := .ref 170) (m := 1) (ykc_215 (e := (2, .aload_n kF0, 0)) rfl) rfl rfl ?_
    refine w_alu (pc' := 18) (st' := [.int (Int32.ofInt 0), .ref 170]) (ykc_215 (e := (0, .iconst 0, 0)) rfl) rfl rfl ?_
    refine w_cv (as := [.ref 170, .int (Int32.ofInt 0)]) (r := []) (ykc_215 (e := (6, .invokevirtual 239, 0)) rfl) rfl rfl rfl rfl (zm_rank0 (b := min ln 40) (ln := ln) (t := t) (by omega) (zSh_F (show zFr [180] [(170, 14), (170, 15), (170, 16), (170, 17), (170, 24)] ph ph1695 from (zFr_trans (zFr_mono f1 (by simp) (by simp)) (zFr_st u1694 (Or.inr (by simp))))) (by decide +kernel) hS) (by decide) ⟨hT1, h17a, hR1⟩) (fun v1699 ph1700 hv => ?_)
    rcases hv with ⟨f2, g9, ok, a2, cs2, hz, rfl, hT2, hR2, -, ha2, hl2⟩
    · cases ok with
      | false =>
        show zW n D 215 Q 21 [some (.ref 170), some (.int (zn ln)), none] [.int (zI false)] ph1700
        refine w_beq (ykc_215 (e := (4, .ifCond .eq 7, 28)) rfl) rfl (fun b1701 => ?_) (fun q => absurd q (by decide))
        refine w_alu (pc' := 29) (st' := [.int (Int32.ofInt 0)]) (ykc_215 (e := (0, .iconst 0, 0)) rfl) rfl rfl ?_
        refine w_store (pc' := 30) (L' := [some (.ref 170), some (.int (zn ln)), some (.int (Int32.ofInt 0))]) (st' := []) (m := 1) (ykc_215 (e := (3, .istore_n kF2, 0)) rfl) rfl rfl ?_
        refine w_load (pc' := 31) (v := .ref 170) (m := 1) (ykc_215 (e := (2, .aload_n kF0, 0)) rfl) rfl rfl ?_
        refine w_load (pc' := 32) (v := .int (zn ln)) (m := 1) (ykc_215 (e := (2, .iload_n kF1, 0)) rfl) rfl rfl ?_
        refine w_push (pc' := 34) (v := .int ((Int8.ofInt 40).toInt32)) (m := 2) (ykc_215 (e := (1, .bipush 40, 0)) rfl) rfl rfl ?_
        refine w_load (pc' := 35) (v := .int (Int32.ofInt 0)) (m := 1) (ykc_215 (e := (2, .iload_n kF2, 0)) rfl) rfl rfl ?_
        have hb2 := hT2.2.2.1
        have hl3 : cs2.length + 0 ≤ 0 + a2 := hl2
        refine w_cv (as := [.ref 170, .int (zn ln), .int ((Int8.ofInt 40).toInt32), .int (Int32.ofInt 0)]) (r := []) (ykc_215 (e := (6, .invokevirtual 213, 0)) rfl) rfl rfl rfl rfl (zm_fault (is := false) (n9 := ln) (c := 40) (zSh_F (show zFr [180] [(170, 14), (170, 15), (170, 16), (170, 17), (170, 24)] ph ph1700 from (zFr_trans (zFr_trans (zFr_mono f1 (by simp) (by simp)) (zFr_st u1694 (Or.inr (by simp)))) (zFr_mono f2 (by simp) (by simp)))) (by decide +kernel) hS) hT2 (by omega) (by decide)) (fun v1702 ph1703 hv => ?_)
        rcases hv with ⟨rfl, z9, rfl, hz9⟩
        · show zW n D 215 Q 38 [some (.ref 170), some (.int (zn ln)), some (.int (Int32.ofInt 0))] [.int z9] ph1700
          refine w_ret (v := (some (.int z9))) (ykc_215 (e := (7, .ireturn, 0)) rfl) (zr_v rfl) ?_
          rw [hQ]
          exact ⟨(show zFr [180] [(170, 14), (170, 15), (170, 16), (170, 17), (170, 24)] ph ph1700 from (zFr_trans (zFr_trans (zFr_mono f1 (by simp) (by simp)) (zFr_st u1694 (Or.inr (by simp)))) (zFr_mono f2 (by simp) (by simp)))), (f2.1 170 14 (by decide) (by decide)).trans h14a, false, a2, cs2, _, Or.inr ⟨by omega, hb2, g9, hz⟩, hR2, by omega, rfl, hz9⟩
        
      | true =>
        show zW n D 215 Q 21 [some (.ref 170), some (.int (zn ln)), none] [.int (zI true)] ph1700
        refine w_beq (ykc_215 (e := (4, .ifCond .eq 7, 28)) rfl) rfl (fun q => absurd q (by decide)) (fun b1704 => ?_)
        refine w_alu (pc' := 25) (st' := [.int (Int32.ofInt 1)]) (ykc_215 (e := (0, .iconst 1, 0)) rfl) rfl rfl ?_
        refine w_br (pc' := 29) (st' := [.int (Int32.ofInt 1)]) (ykc_215 (e := (4, .goto 4, 29)) rfl) rfl ?_
        refine w_store (pc' := 30) (L' := [some (.ref 170), some (.int (zn ln)), some (.int (Int32.ofInt 1))]) (st' := []) (m := 1) (ykc_215 (e := (3, .istore_n kF2, 0)) rfl) rfl rfl ?_
        refine w_load (pc' := 31) (v := .ref 170) (m := 1) (ykc_215 (e := (2, .aload_n kF0, 0)) rfl) rfl rfl ?_
        refine w_load (pc' := 32) (v := .int (zn ln)) (m := 1) (ykc_215 (e := (2, .iload_n kF1, 0)) rfl) rfl rfl ?_
        refine w_push (pc' := 34) (v := .int ((Int8.ofInt 40).toInt32)) (m := 2) (ykc_215 (e := (1, .bipush 40, 0)) rfl) rfl rfl ?_
        refine w_load (pc' := 35) (v := .int (Int32.ofInt 1)) (m := 1) (ykc_215 (e := (2, .iload_n kF2, 0)) rfl) rfl rfl ?_
        have hb2 := hT2.2.2.1
        have hl3 : cs2.length + 0 ≤ 0 + a2 := hl2
        refine w_cv (as := [.ref 170, .int (zn ln), .int ((Int8.ofInt 40).toInt32), .int (Int32.ofInt 1)]) (r := []) (ykc_215 (e := (6, .invokevirtual 213, 0)) rfl) rfl rfl rfl rfl (zm_fault (is := true) (n9 := ln) (c := 40) (zSh_F (show zFr [180] [(170, 14), (170, 15), (170, 16), (170, 17), (170, 24)] ph ph1700 from (zFr_trans (zFr_trans (zFr_mono f1 (by simp) (by simp)) (zFr_st u1694 (Or.inr (by simp)))) (zFr_mono f2 (by simp) (by simp)))) (by decide +kernel) hS) hT2 (by omega) (by decide)) (fun v1705 ph1706 hv => ?_)
        rcases hv with ⟨rfl, z9, rfl, hz9⟩
        · show zW n D 215 Q 38 [some (.ref 170), some (.int (zn ln)), some (.int (Int32.ofInt 1))] [.int z9] ph1700
          refine w_ret (v := (some (.int z9))) (ykc_215 (e := (7, .ireturn, 0)) rfl) (zr_v rfl) ?_
          rw [hQ]
          exact ⟨(show zFr [180] [(170, 14), (170, 15), (170, 16), (170, 17), (170, 24)] ph ph1700 from (zFr_trans (zFr_trans (zFr_mono f1 (by simp) (by simp)) (zFr_st u1694 (Or.inr (by simp)))) (zFr_mono f2 (by simp) (by simp)))), (f2.1 170 14 (by decide) (by decide)).trans h14a, true, a2, cs2, _, Or.inr ⟨by omega, hb2, g9, hz⟩, hR2, by omega, rfl, hz9⟩
        
    
theorem zRc_g {ph : pm_H} {cs : List Nat} (h : zRc ph cs) {i : Nat} (hi : i < cs.length) : zc ph 180 i = some (.int (zn (cs.reverse.getD i 0))) ∧ cs.reverse.getD i 0 ≤ 3000 := by
  have e : cs.reverse.getD i 0 = cs[cs.length - 1 - i]'(by omega) := by
    rw [List.getD_eq_getElem?_getD, List.getElem?_reverse hi, List.getElem?_eq_getElem (by omega)]
    rfl
  obtain ⟨g1, g2⟩ := h.2 (cs.length - 1 - i) _ (List.getElem?_eq_getElem (by omega))
  rw [show cs.length - 1 - (cs.length - 1 - i) = i by omega] at g1
  rw [e]
  exact ⟨g1, g2⟩
theorem zm_laysCode {ph : pm_H} {cs : List Nat} {y : Int32} (hS : zSh ph) (hR : zRc ph cs) (hy : y = zn cs.length) (hl : cs.length ≤ 40) : zM 216 [.ref 170, .ref 180, .int y] ph (fun v0 q => v0 = none ∧ zFr [179] [(170, 23)] ph q ∧ zc q 170 23 = some (.int (zn cs.length)) ∧ ∀ i, i < cs.length → zc q 179 i = some (.int (zn (cs.reverse.getD i 0))) ∧ cs.reverse.getD i 0 ≤ 3000) := by
  obtain ⟨Q, hQ⟩ : ∃ Q : Option Value → pm_H → Prop, Q = (fun v0 q => v0 = none ∧ zFr [179] [(170, 23)] ph q ∧ zc q 170 23 = some (.int (zn cs.length)) ∧ ∀ i, i < cs.length → zc q 179 i = some (.int (zn (cs.reverse.getD i 0))) ∧ cs.reverse.getD i 0 ≤ 3000) := ⟨_, rfl⟩
  rw [← hQ]
  refine zM_mk fun n D => ?_
  show zW n D 216 Q 0 [some (.ref 170), some (.ref 180), some (.int y), none] [] ph
  have c_0 : (Int32.ofInt 0).toInt = 0 := by decide
  have c_1 : (Int32.ofInt 1).toInt = 1 := by decide
  subst hy
  have tl := znt (k := cs.length) (by omega)
  refine w_load (pc' := 1) (v := .ref 170) (m := 1) (ykc_216 (e := (2, .aload_n kF0, 0)) rfl) rfl rfl ?_
  refine w_load (pc' := 2) (v := .int (zn cs.length)) (m := 1) (ykc_216 (e := (2, .iload_n kF2, 0)) rfl) rfl rfl ?_
  refine w_pf (pc' := 5) (ykc_216 (e := (5, .putfield 248, 0)) rfl) rfl rfl (fun ph1708 u1707 => ?_)
  refine w_alu (pc' := 6) (st' := [.int (Int32.ofInt 0)]) (ykc_216 (e := (0, .iconst 0, 0)) rfl) rfl rfl ?_
  refine w_store (pc' := 7) (L' := [some (.ref 170), some (.ref 180), some (.int (zn cs.length)), some (.int (Int32.ofInt 0))]) (st' := []) (m := 1) (ykc_216 (e := (3, .istore_n kF3, 0)) rfl) rfl rfl ?_
  have hl9 : ∀ (n : Nat), ∀ (k : Nat) (p : pm_H), (k ≤ cs.length) → (zFr [179] [] ph1708 p) → (∀ i, i < k → zc p 179 i = some (.int (zn (cs.reverse.getD i 0)))) → zW n D 216 Q 7 [some (.ref 170), some (.ref 180), some (.int (zn cs.length)), some (.int (zn k))] [] p := by
    intro n
    induction n using Nat.strongRecOn with
    | ind n ih =>
      intro k p hk hf hg
      have tk := znt (k := k) (by omega)
      have fz : zFr [179] [(170, 23)] ph p := zFr_trans (zFr_st u1707 (Or.inr (by simp))) (zFr_mono hf (by simp) (by simp))
      have hx9 : k < cs.length → zc p 180 k = some (.int (zn (cs.reverse.getD k 0))) := fun h => (fz.1 180 k (by simp) (by simp)).trans (zRc_g hR h).1
      refine w_load (pc' := 8) (v := .int (zn k)) (m := 1) (ykc_216 (e := (2, .iload_n kF3, 0)) rfl) rfl rfl ?_
      refine w_load (pc' := 9) (v := .int (zn cs.length)) (m := 1) (ykc_216 (e := (2, .iload_n kF2, 0)) rfl) rfl rfl ?_
      refine w_ige (ykc_216 (e := (4, .if_icmp .ge 18, 27)) rfl) rfl (fun b1709 => ?_) (fun b1709 => ?_)
      · refine w_ret (v := none) (ykc_216 (e := (7, .return_, 0)) rfl) (zr_v rfl) ?_
        rw [hQ]
        have ek : k = cs.length := by omega
        subst ek
        exact ⟨rfl, fz, (hf.1 170 23 (by decide) (by decide)).trans u1707.1, fun i hi => ⟨hg i hi, (zRc_g hR hi).2⟩⟩
      · refine w_load (pc' := 13) (v := .ref 170) (m := 1) (ykc_216 (e := (2, .aload_n kF0, 0)) rfl) rfl rfl ?_
        refine w_gf (pc' := 16) (v := .ref 179) (ykc_216 (e := (5, .getfield 56, 0)) rfl) rfl ((hf.1 170 21 (by decide) (by decide)).trans ((u1707.2.1 170 21 (fun q => absurd q.2 (by decide))).trans (zsg hS zs_170_21))) rfl ?_
        refine w_load (pc' := 17) (v := .int (zn k)) (m := 1) (ykc_216 (e := (2, .iload_n kF3, 0)) rfl) rfl rfl ?_
        refine w_load (pc' := 18) (v := .ref 180) (m := 1) (ykc_216 (e := (2, .aload_n kF1, 0)) rfl) rfl rfl ?_
        refine w_load (pc' := 19) (v := .int (zn k)) (m := 1) (ykc_216 (e := (2, .iload_n kF3, 0)) rfl) rfl rfl ?_
        refine w_ialk (pc' := 20) (k := k) (ykc_216 (e := (5, .iaload, 0)) rfl) (hx9 (by omega)) (by omega) rfl ?_
        refine w_ias (pc' := 21) (k := k) (ykc_216 (e := (5, .iastore, 0)) rfl) (by omega) rfl (fun ph1711 u1710 => ?_)
        have e1712 : (zn k) + Int32.ofInt 1 = zn (k + 1) := (zaddN (a := k) (b := 1) (znt (by omega)) c_1 (by omega))
        have te1712 := znt (k := k + 1) (by omega)
        refine w_store (pc' := 24) (L' := [some (.ref 170), some (.ref 180), some (.int (zn cs.length)), some (.int (zn (k + 1)))]) (st' := []) (m := 3) (ykc_216 (e := (3, .iinc 3 1, 0)) rfl) (by rw [← e1712]; rfl) rfl ?_
        refine w_gb (ykc_216 (e := (4, .goto (-17), 7)) rfl) (fun k1713 hk1713 => ?_)
        exact ih k1713 hk1713 (k + 1) _ (by omega) (zFr_add hf u1710 (Or.inl (by simp))) (fun i hi => by
          by_cases e : i = k
          · subst e; exact u1710.1
          · exact (u1710.2.1 179 i (fun q => e q.2)).trans (hg i (by omega)))
  exact hl9 n 0 _ (Nat.zero_le _) zFr_refl (fun i hi => absurd hi (Nat.not_lt_zero i))
end
section
/-! the two RULES: answers and codes, by W; printed by wip/z/z1j_rule.py -/
section ZRJ
variable {t : Nat → Nat}
theorem zrn_s {s q : zAs} {p k : Nat} (h : zrn t s p k = some q) : zrn t s p (k + 1) = zstep (t (p + k)) q := by
  show (zrn t s p k).bind _ = _
  rw [h]
  rfl
theorem zrn_0 {s : zAs} {p k : Nat} (h : zrn t s p k = none) : ∀ m, zrn t s p (k + m) = none
  | 0 => h
  | m + 1 => by
    show (zrn t s p (k + m)).bind _ = none
    rw [zrn_0 h m]
    rfl
/-- stopped at k: nothing further on -/
theorem zrn_x {s q : zAs} {k m : Nat} (h : zrn t s 0 k = some q) (hn : zstep (t k) q = none) (hm : k < m) : zrn t s 0 m = none := by
  have h1 : zrn t s 0 (k + 1) = none := by
    rw [zrn_s h, Nat.zero_add]
    exact hn
  have h2 := zrn_0 h1 (m - (k + 1))
  rwa [show k + 1 + (m - (k + 1)) = m by omega] at h2
theorem zrn_y {s q q' : zAs} {k m : Nat} (h : zrn t s 0 k = some q) (hn : zstep (t k) q = none) (h2 : zrn t s 0 m = some q') : m ≤ k := by
  by_cases e : k < m
  · rw [zrn_x h hn e] at h2
    cases h2
  · omega
/-- the class's reading and the reference's of the same text -/
theorem zrule_join {ln : Nat} {ok : Bool} {a2 : Nat} {cs2 Cs : List Nat} {cm : Nat → Bool} {z : Int} (h1 : zRu ln t ok a2 cs2) (h2 : zOut ln t ([], [], zub cm 0 false, 0, 0, true) z Cs) : (z = -1 ∧ zFo ln 40 a2 (min ln 40) ok = 0 ∧ ok = true ∧ ((ln = 0 ∧ Cs = [2004, 1000, 1001] ∧ cs2 = []) ∨ (0 < ln ∧ ln ≤ 40 ∧ Cs = cs2))) ∨ (0 ≤ z ∧ z ≤ 40 ∧ zFo ln 40 a2 (min ln 40) ok = -1 - z) := by
  rcases h1 with ⟨e1, e2, e3, e4⟩ | ⟨h0, hab, f, hz⟩
  · subst e1 e2 e3 e4
    rcases h2 with ⟨-, g2, g3⟩ | ⟨g1, -⟩ | ⟨g1, -⟩
    · exact Or.inl ⟨g2, rfl, rfl, Or.inl ⟨rfl, g3, rfl⟩⟩
    · omega
    · omega
  · have hs := (zsim (b := min ln 40) (t := t) f).1 0 0 0 0 [] [] (zub cm 0 false) ok a2 cs2 (by decide) (Nat.zero_le _) (fun _ o ho => by cases ho) (fun _ => zub_e) hz
    -- stopped, or read to the end
    have key : (∃ s2, zrn t ([], [], zub cm 0 false, 0, 0, true) 0 a2 = some s2 ∧ ((a2 < min ln 40 ∧ zstep (t a2) s2 = none) ∨ (a2 = min ln 40 ∧ ok = false ∧ (s2.2.2.2.2.2 = true ∨ 0 < s2.2.2.2.1)))) ∨ (a2 = min ln 40 ∧ ok = true ∧ ∃ C2 W2 cm2 dg2, zrn t ([], [], zub cm 0 false, 0, 0, true) 0 a2 = some (C2, W2, cm2, 0, dg2, false) ∧ cs2 = W2.reverse ++ C2 ∧ ∀ o ∈ W2, 1 ≤ zbd o) := by
      cases ok with
      | false =>
        obtain ⟨k1, k2, s2, k3, k4, k5⟩ := hs.2 rfl
        have k3 : zrn t _ 0 (a2 - 0) = some s2 := k3
        rw [Nat.sub_zero] at k3
        refine Or.inl ⟨s2, k3, ?_⟩
        by_cases e : a2 < min ln 40
        · exact Or.inl ⟨e, k4 e⟩
        · exact Or.inr ⟨by omega, rfl, k5 (by omega)⟩
      | true =>
        obtain ⟨k1, k2, C2, W2, cm2, dg2, k3, k4, k5, k6, k7, k8⟩ := hs.1 rfl
        have k3 : zrn t _ 0 (a2 - 0) = some (C2, W2 ++ [], cm2, 0, dg2, false) := k3
        rw [Nat.sub_zero, List.append_nil] at k3
        by_cases e : a2 < min ln 40
        · refine Or.inl ⟨_, k3, Or.inl ⟨e, ?_⟩⟩
          obtain ⟨n1, n2⟩ := k8 e
          refine zstep_x n1 (fun _ => rfl) (fun q => ?_)
          have hq := zbd_op q
          rcases n2 q with r | r
          · omega
          · exact r
        · exact Or.inr ⟨by omega, rfl, C2, W2, cm2, dg2, k3, k4, k5⟩
    rcases h2 with ⟨g1, -⟩ | ⟨-, g2, g3, C, W, cm3, dg, g4, g5⟩ | ⟨-, p, s, g1, g2, g3, g4, g5⟩
    · omega
    · -- the class read all
      rcases key with ⟨s2, k1, ⟨k2, k3⟩ | ⟨k2, k3, k4⟩⟩ | ⟨k1, k2, C2, W2, cm2, dg2, k3, k4, k5⟩
      · rw [zrn_x k1 k3 (show a2 < ln by omega)] at g4
        cases g4
      · rw [show a2 = ln by omega, g4] at k1
        cases k1
        rcases k4 with q | q
        · cases q
        · exact absurd q (Nat.lt_irrefl 0)
      · have ea : a2 = ln := by omega
        rw [ea, g4] at k3
        cases k3
        refine Or.inl ⟨g3, ?_, k2, Or.inr ⟨h0, g2, ?_⟩⟩
        · subst k2
          rw [zFo_t, if_neg (by omega), if_pos k1]
        · have := zrl_all (b := 1) (W2 := W) (W := []) (C := C) k5 (fun o ho => by cases ho)
          rw [List.append_nil] at this
          rw [g5, this, k4]
    · -- the class stopped at p
      refine Or.inr ⟨by omega, by omega, ?_⟩
      have hp : p = a2 ∧ (ok = true → a2 = min ln 40 → 40 < ln) := by
        rcases key with ⟨s2, k1, ⟨k2, k3⟩ | ⟨k2, k3, k4⟩⟩ | ⟨k1, k2, C2, W2, cm2, dg2, k3, k4, k5⟩
        · refine ⟨?_, fun _ q => by omega⟩
          have hle := zrn_y k1 k3 g3
          rcases g5 with ⟨q1, q2, q3⟩ | ⟨q1, q2⟩ | ⟨q1, q2⟩
          · have := zrn_y g3 q3 k1
            omega
          · omega
          · omega
        · refine ⟨?_, fun q => by rw [k3] at q; cases q⟩
          rcases g5 with ⟨q1, q2, q3⟩ | ⟨q1, q2⟩ | ⟨q1, q2⟩
          · have := zrn_y g3 q3 k1
            omega
          · omega
          · omega
        · rcases g5 with ⟨q1, q2, q3⟩ | ⟨q1, q2⟩ | ⟨q1, q2⟩
          · have := zrn_y g3 q3 k3
            omega
          · exact ⟨by omega, fun _ _ => by omega⟩
          · exfalso
            by_cases e : ln ≤ 40
            · rw [show a2 = p by omega, g3] at k3
              cases k3
              rcases q2 with q | q
              · cases q
              · exact absurd q (Nat.lt_irrefl 0)
            · omega
      obtain ⟨hp1, hp2⟩ := hp
      rw [g4, hp1]
      cases ok with
      | false =>
        rw [zFo_b]
        split
        · omega
        · rfl
      | true =>
        rw [zFo_t]
        have := hp2 rfl
        split
        · omega
        · rw [if_neg (by omega)]
end ZRJ
theorem zm_rule {ph : pm_H} {ln : Nat} {t : Nat → Nat} (hS : zSh ph) (hn : zc ph 170 14 = some (.int (zn ln))) (hn80 : ln ≤ 80) (gt : ∀ i, i < ln → zc ph 176 i = some (.int (zn (t i))) ∧ t i < 256) : zM 217 [.ref 170] ph (fun v0 q => zFr [179, 180] [(170, 0), (170, 14), (170, 15), (170, 16), (170, 17), (170, 23), (170, 24)] ph q ∧ zc q 170 0 = some (.int (zn 0)) ∧ zc q 170 14 = some (.int (zn 0)) ∧ ∃ (ok : Bool) (a2 : Nat) (cs2 : List Nat) (z : Int32), zRu ln t ok a2 cs2 ∧ cs2.length ≤ 40 ∧ v0 = some (.int z) ∧ z.toInt = zFo ln 40 a2 (min ln 40) ok ∧ ((z.toInt = 0 ∧ zc q 170 23 = some (.int (zn cs2.length)) ∧ ∀ i, i < cs2.length → zc q 179 i = some (.int (zn (cs2.reverse.getD i 0))) ∧ cs2.reverse.getD i 0 ≤ 3000) ∨ (z.toInt ≠ 0 ∧ zc q 170 23 = zc ph 170 23 ∧ ∀ i, zc q 179 i = zc ph 179 i))) := by
  obtain ⟨Q, hQ⟩ : ∃ Q : Option Value → pm_H → Prop, Q = (fun v0 q => zFr [179, 180] [(170, 0), (170, 14), (170, 15), (170, 16), (170, 17), (170, 23), (170, 24)] ph q ∧ zc q 170 0 = some (.int (zn 0)) ∧ zc q 170 14 = some (.int (zn 0)) ∧ ∃ (ok : Bool) (a2 : Nat) (cs2 : List Nat) (z : Int32), zRu ln t ok a2 cs2 ∧ cs2.length ≤ 40 ∧ v0 = some (.int z) ∧ z.toInt = zFo ln 40 a2 (min ln 40) ok ∧ ((z.toInt = 0 ∧ zc q 170 23 = some (.int (zn cs2.length)) ∧ ∀ i, i < cs2.length → zc q 179 i = some (.int (zn (cs2.reverse.getD i 0))) ∧ cs2.reverse.getD i 0 ≤ 3000) ∨ (z.toInt ≠ 0 ∧ zc q 170 23 = zc ph 170 23 ∧ ∀ i, zc q 179 i = zc ph 179 i))) := ⟨_, rfl⟩
  rw [← hQ]
  refine zM_mk fun n D => ?_
  show zW n D 217 Q 0 [some (.ref 170), none] [] ph
  have c_0 : (Int32.ofInt 0).toInt = 0 := by decide
  refine w_load (pc' := 1) (v := .ref 170) (m := 1) (ykc_217 (e := (2, .aload_n kF0, 0)) rfl) rfl rfl ?_
  refine w_alu (pc' := 2) (st' := [.int (Int32.ofInt 0), .ref 170]) (ykc_217 (e := (0, .iconst 0, 0)) rfl) rfl rfl ?_
  refine w_pf (pc' := 5) (ykc_217 (e := (5, .putfield 3, 0)) rfl) rfl rfl (fun ph1518 u1517 => ?_)
  refine w_load (pc' := 6) (v := .ref 170) (m := 1) (ykc_217 (e := (2, .aload_n kF0, 0)) rfl) rfl rfl ?_
  have fu : zFr [] [(170, 0)] _ ph1518 := zFr_st u1517 (Or.inr (by simp))
  refine w_cv (as := [.ref 170]) (r := []) (ykc_217 (e := (6, .invokevirtual 251, 0)) rfl) rfl rfl rfl rfl (zm_rulesRead (zSh_F fu (by decide +kernel) hS) ((fu.1 170 14 (by decide) (by decide)).trans hn) hn80 (fun i hi => ⟨(fu.1 176 i (by simp) (by simp)).trans (gt i hi).1, (gt i hi).2⟩)) (fun v1519 ph1520 hv => ?_)
  rcases hv with ⟨f2, h14, ok, a2, cs2, z9, hru, hR2, hl2, rfl, hz9⟩
  · have tl9 := znt (k := cs2.length) (by omega)
    show zW n D 217 Q 9 [some (.ref 170), none] [.int z9] ph1520
    refine w_store (pc' := 10) (L' := [some (.ref 170), some (.int z9)]) (st' := []) (m := 1) (ykc_217 (e := (3, .istore_n kF1, 0)) rfl) rfl rfl ?_
    refine w_load (pc' := 11) (v := .int z9) (m := 1) (ykc_217 (e := (2, .iload_n kF1, 0)) rfl) rfl rfl ?_
    refine w_zne (ykc_217 (e := (4, .ifCond .ne 15, 26)) rfl) rfl (fun b1521 => ?_) (fun b1521 => ?_)
    · refine w_load (pc' := 27) (v := .int z9) (m := 1) (ykc_217 (e := (2, .iload_n kF1, 0)) rfl) rfl rfl ?_
      refine w_ret (v := (some (.int z9))) (ykc_217 (e := (7, .ireturn, 0)) rfl) (zr_v rfl) ?_
      rw [hQ]
      exact ⟨(show zFr [179, 180] [(170, 0), (170, 14), (170, 15), (170, 16), (170, 17), (170, 23), (170, 24)] ph ph1520 from (zFr_trans (zFr_st u1517 (Or.inr (by simp))) (zFr_mono f2 (by simp) (by simp)))), (f2.1 170 0 (by decide) (by decide)).trans u1517.1, h14, ok, a2, cs2, z9, hru, hl2, rfl, hz9, Or.inr ⟨by omega, (f2.1 170 23 (by decide) (by decide)).trans (fu.1 170 23 (by decide) (by decide)), fun i => (f2.1 179 i (by simp) (by simp)).trans (fu.1 179 i (by simp) (by simp))⟩⟩
    · refine w_load (pc' := 15) (v := .ref 170) (m := 1) (ykc_217 (e := (2, .aload_n kF0, 0)) rfl) rfl rfl ?_
      refine w_load (pc' := 16) (v := .ref 170) (m := 1) (ykc_217 (e := (2, .aload_n kF0, 0)) rfl) rfl rfl ?_
      refine w_gf (pc' := 19) (v := .ref 180) (ykc_217 (e := (5, .getfield 59, 0)) rfl) rfl ((f2.1 170 22 (by decide) (by decide)).trans ((u1517.2.1 170 22 (fun q => absurd q.2 (by decide))).trans (zsg hS zs_170_22))) rfl ?_
      refine w_load (pc' := 20) (v := .ref 170) (m := 1) (ykc_217 (e := (2, .aload_n kF0, 0)) rfl) rfl rfl ?_
      refine w_gf (pc' := 23) (v := .int (zn cs2.length)) (ykc_217 (e := (5, .getfield 227, 0)) rfl) rfl hR2.1 rfl ?_
      refine w_cv (as := [.ref 170, .ref 180, .int (zn cs2.length)]) (r := []) (ykc_217 (e := (6, .invokevirtual 254, 0)) rfl) rfl rfl rfl rfl (zm_laysCode (zSh_F (show zFr [179, 180] [(170, 0), (170, 14), (170, 15), (170, 16), (170, 17), (170, 23), (170, 24)] ph ph1520 from (zFr_trans (zFr_st u1517 (Or.inr (by simp))) (zFr_mono f2 (by simp) (by simp)))) (by decide +kernel) hS) hR2 rfl hl2) (fun v1522 ph1523 hv => ?_)
      rcases hv with ⟨rfl, f3, h23, h179⟩
      · have hlaid := True.intro
        show zW n D 217 Q 26 [some (.ref 170), some (.int z9)] [] ph1523
        refine w_load (pc' := 27) (v := .int z9) (m := 1) (ykc_217 (e := (2, .iload_n kF1, 0)) rfl) rfl rfl ?_
        refine w_ret (v := (some (.int z9))) (ykc_217 (e := (7, .ireturn, 0)) rfl) (zr_v rfl) ?_
        rw [hQ]
        exact ⟨(show zFr [179, 180] [(170, 0), (170, 14), (170, 15), (170, 16), (170, 17), (170, 23), (170, 24)] ph ph1523 from (zFr_trans (zFr_trans (zFr_st u1517 (Or.inr (by simp))) (zFr_mono f2 (by simp) (by simp))) (zFr_mono f3 (by simp) (by simp)))), (f3.1 170 0 (by decide) (by decide)).trans ((f2.1 170 0 (by decide) (by decide)).trans u1517.1), (f3.1 170 14 (by decide) (by decide)).trans h14, ok, a2, cs2, z9, hru, hl2, rfl, hz9, Or.inl ⟨by omega, h23, h179⟩⟩
      
  
theorem zc_other {ph : pm_H} {F : Nat} (ho : zc ph 10 2 = some (.ref F)) : zM 77 [.ref 10] ph (fun v q => ph = q ∧ v = some (.ref F)) := by
  obtain ⟨Q, hQ⟩ : ∃ Q : Option Value → pm_H → Prop, Q = (fun v q => ph = q ∧ v = some (.ref F)) := ⟨_, rfl⟩
  rw [← hQ]
  refine zM_mk fun n D => ?_
  show zW n D 77 Q 0 [some (.ref 10)] [] ph
  refine w_load (pc' := 1) (v := .ref 10) (m := 1) (ykc_77 (e := (2, .aload_n kF0, 0)) rfl) rfl rfl ?_
  refine w_gf (pc' := 4) (v := .ref F) (ykc_77 (e := (5, .getfield 22, 0)) rfl) rfl ho rfl ?_
  refine w_ret (v := (some (.ref F))) (ykc_77 (e := (7, .areturn, 0)) rfl) (zr_v rfl) ?_
  rw [hQ]
  exact ⟨rfl, rfl⟩
theorem zc_takeOther {ph : pm_H} {F G : Nat} (ho : zc ph 10 2 = some (.ref F)) (hr : zc ph 10 1 = some (.ref G)) : zM 78 [.ref 10] ph (fun v q => v = none ∧ zFr [] [(10, 1), (10, 2)] ph q ∧ zc q 10 1 = some (.ref F) ∧ zc q 10 2 = some (.ref G)) := by
  obtain ⟨Q, hQ⟩ : ∃ Q : Option Value → pm_H → Prop, Q = (fun v q => v = none ∧ zFr [] [(10, 1), (10, 2)] ph q ∧ zc q 10 1 = some (.ref F) ∧ zc q 10 2 = some (.ref G)) := ⟨_, rfl⟩
  rw [← hQ]
  refine zM_mk fun n D => ?_
  show zW n D 78 Q 0 [some (.ref 10), none] [] ph
  refine w_load (pc' := 1) (v := .ref 10) (m := 1) (ykc_78 (e := (2, .aload_n kF0, 0)) rfl) rfl rfl ?_
  refine w_gf (pc' := 4) (v := .ref G) (ykc_78 (e := (5, .getfield 18, 0)) rfl) rfl hr rfl ?_
  refine w_store (pc' := 5) (L' := [some (.ref 10), some (.ref G)]) (st' := []) (m := 1) (ykc_78 (e := (3, .astore_n kF1, 0)) rfl) rfl rfl ?_
  refine w_load (pc' := 6) (v := .ref 10) (m := 1) (ykc_78 (e := (2, .aload_n kF0, 0)) rfl) rfl rfl ?_
  refine w_load (pc' := 7) (v := .ref 10) (m := 1) (ykc_78 (e := (2, .aload_n kF0, 0)) rfl) rfl rfl ?_
  refine w_gf (pc' := 10) (v := .ref F) (ykc_78 (e := (5, .getfield 22, 0)) rfl) rfl ho rfl ?_
  refine w_pf (pc' := 13) (ykc_78 (e := (5, .putfield 18, 0)) rfl) rfl rfl (fun ph1525 u1524 => ?_)
  refine w_load (pc' := 14) (v := .ref 10) (m := 1) (ykc_78 (e := (2, .aload_n kF0, 0)) rfl) rfl rfl ?_
  refine w_load (pc' := 15) (v := .ref G) (m := 1) (ykc_78 (e := (2, .aload_n kF1, 0)) rfl) rfl rfl ?_
  refine w_pf (pc' := 18) (ykc_78 (e := (5, .putfield 22, 0)) rfl) rfl rfl (fun ph1527 u1526 => ?_)
  refine w_ret (v := none) (ykc_78 (e := (7, .return_, 0)) rfl) (zr_v rfl) ?_
  rw [hQ]
  exact ⟨rfl, zFr_trans (zFr_st u1524 (Or.inr (by simp))) (zFr_st u1526 (Or.inr (by simp))), ((u1526.2.1 10 1 (fun q => absurd q.2 (by decide))).trans u1524.1), u1526.1⟩
theorem zc_rule {ph : pm_H} {F G ln : Nat} {t : Nat → Nat} {cm : Nat → Bool} (hS : zSh ph) (hF : F = 11 ∨ F = 16) (hT : zTc ph ln t) (ho : zc ph 10 2 = some (.ref F)) (hr : zc ph 10 1 = some (.ref G)) (hp : zFp ph F) (hb : zFb ph F cm) : zM 128 [.ref 0] ph (fun v0 q => zFr [F + 1, F + 2, F + 3] [(F, 1), (F, 3), (F, 5), (F, 6), (F, 7), (1, 1), (10, 1), (10, 2)] ph q ∧ zc q 1 1 = some (.int (zn 0)) ∧ (∃ cm2, zFb q F cm2) ∧ ∃ (z y : Int32) (Cs : List Nat), zOut ln t ([], [], zub cm 0 false, 0, 0, true) z.toInt Cs ∧ v0 = some (.int y) ∧ ((z.toInt = -1 ∧ y.toInt = 0 ∧ zFc q F Cs ∧ zc q 10 1 = some (.ref F) ∧ zc q 10 2 = some (.ref G)) ∨ (0 ≤ z.toInt ∧ y.toInt = -1 - z.toInt ∧ zc q 10 1 = some (.ref G) ∧ zc q 10 2 = some (.ref F)))) := by
  obtain ⟨Q, hQ⟩ : ∃ Q : Option Value → pm_H → Prop, Q = (fun v0 q => zFr [F + 1, F + 2, F + 3] [(F, 1), (F, 3), (F, 5), (F, 6), (F, 7), (1, 1), (10, 1), (10, 2)] ph q ∧ zc q 1 1 = some (.int (zn 0)) ∧ (∃ cm2, zFb q F cm2) ∧ ∃ (z y : Int32) (Cs : List Nat), zOut ln t ([], [], zub cm 0 false, 0, 0, true) z.toInt Cs ∧ v0 = some (.int y) ∧ ((z.toInt = -1 ∧ y.toInt = 0 ∧ zFc q F Cs ∧ zc q 10 1 = some (.ref F) ∧ zc q 10 2 = some (.ref G)) ∨ (0 ≤ z.toInt ∧ y.toInt = -1 - z.toInt ∧ zc q 10 1 = some (.ref G) ∧ zc q 10 2 = some (.ref F)))) := ⟨_, rfl⟩
  rw [← hQ]
  refine zM_mk fun n D => ?_
  show zW n D 128 Q 0 [some (.ref 0), none] [] ph
  have c_0 : (Int32.ofInt (-1)).toInt = -1 := by decide
  have c_1 : (Int32.ofInt 0).toInt = 0 := by decide
  refine w_load (pc' := 1) (v := .ref 0) (m := 1) (ykc_128 (e := (2, .aload_n kF0, 0)) rfl) rfl rfl ?_
  refine w_gf (pc' := 4) (v := .ref 10) (ykc_128 (e := (5, .getfield 35, 0)) rfl) rfl (zsg hS zs_0_3) rfl ?_
  refine w_cv (as := [.ref 10]) (r := []) (ykc_128 (e := (6, .invokevirtual 157, 0)) rfl) rfl rfl rfl rfl (zc_other ho) (fun v1528 ph1529 hv => ?_)
  obtain ⟨rfl, rfl⟩ := hv
  show zW n D 128 Q 7 [some (.ref 0), none] [.ref F] ph
  refine w_load (pc' := 8) (v := .ref 0) (m := 1) (ykc_128 (e := (2, .aload_n kF0, 0)) rfl) rfl rfl ?_
  refine w_gf (pc' := 11) (v := .ref 1) (ykc_128 (e := (5, .getfield 10, 0)) rfl) rfl (zsg hS zs_0_0) rfl ?_
  refine w_cv (as := [.ref F, .ref 1]) (r := []) (ykc_128 (e := (6, .invokevirtual 161, 0)) rfl) rfl rfl rfl rfl (zc_fread hS hF hT hp hb) (fun v1530 ph1531 hv => ?_)
  rcases hv with ⟨f1, hcm9, z9, Cs, rfl, ho9, hc9⟩
  · have hzr : z9.toInt = -1 ∨ 0 ≤ z9.toInt := by
      rcases ho9 with ⟨-, q, -⟩ | ⟨-, -, q, -⟩ | ⟨-, p9, s9, -, -, -, q, -⟩ <;> omega
    have hz40 : z9.toInt ≤ 80 := by
      rcases ho9 with ⟨-, q, -⟩ | ⟨-, -, q, -⟩ | ⟨-, p9, s9, q2, q3, -, q, -⟩ <;> omega
    show zW n D 128 Q 14 [some (.ref 0), none] [.int z9] ph1531
    refine w_store (pc' := 15) (L' := [some (.ref 0), some (.int z9)]) (st' := []) (m := 1) (ykc_128 (e := (3, .istore_n kF1, 0)) rfl) rfl rfl ?_
    refine w_load (pc' := 16) (v := .ref 0) (m := 1) (ykc_128 (e := (2, .aload_n kF0, 0)) rfl) rfl rfl ?_
    refine w_gf (pc' := 19) (v := .ref 1) (ykc_128 (e := (5, .getfield 10, 0)) rfl) rfl ((f1.1 0 0 (by simp <;> omega) (by simp <;> omega)).trans (zsg hS zs_0_0)) rfl ?_
    refine w_cv (as := [.ref 1]) (r := []) (ykc_128 (e := (6, .invokevirtual 119, 0)) rfl) rfl rfl rfl rfl (zc_tclear) (fun v1532 ph1533 hv => ?_)
    obtain ⟨rfl, f2, h11⟩ := hv
    show zW n D 128 Q 22 [some (.ref 0), some (.int z9)] [] ph1533
    refine w_load (pc' := 23) (v := .int z9) (m := 1) (ykc_128 (e := (2, .iload_n kF1, 0)) rfl) rfl rfl ?_
    refine w_zlt (ykc_128 (e := (4, .ifCond .lt 7, 30)) rfl) rfl (fun b1534 => ?_) (fun b1534 => ?_)
    · refine w_load (pc' := 31) (v := .ref 0) (m := 1) (ykc_128 (e := (2, .aload_n kF0, 0)) rfl) rfl rfl ?_
      refine w_gf (pc' := 34) (v := .ref 10) (ykc_128 (e := (5, .getfield 35, 0)) rfl) rfl ((f2.1 0 3 (by decide) (by decide)).trans ((f1.1 0 3 (by simp <;> omega) (by simp <;> omega)).trans (zsg hS zs_0_3))) rfl ?_
      refine w_cv (as := [.ref 10]) (r := []) (ykc_128 (e := (6, .invokevirtual 164, 0)) rfl) rfl rfl rfl rfl (zc_takeOther (F := F) (G := G) ((f2.1 10 2 (by rcases hF with e | e <;> subst e <;> decide) (by rcases hF with e | e <;> subst e <;> decide)).trans ((f1.1 10 2 (by rcases hF with e | e <;> subst e <;> decide) (by rcases hF with e | e <;> subst e <;> decide)).trans ho)) ((f2.1 10 1 (by rcases hF with e | e <;> subst e <;> decide) (by rcases hF with e | e <;> subst e <;> decide)).trans ((f1.1 10 1 (by rcases hF with e | e <;> subst e <;> decide) (by rcases hF with e | e <;> subst e <;> decide)).trans hr))) (fun v1535 ph1536 hv => ?_)
      obtain ⟨rfl, f3, h3r, h3o⟩ := hv
      show zW n D 128 Q 37 [some (.ref 0), some (.int z9)] [] ph1536
      refine w_alu (pc' := 38) (st' := [.int (Int32.ofInt 0)]) (ykc_128 (e := (0, .iconst 0, 0)) rfl) rfl rfl ?_
      refine w_ret (v := (some (.int (Int32.ofInt 0)))) (ykc_128 (e := (7, .ireturn, 0)) rfl) (zr_v rfl) ?_
      obtain ⟨cm9, hcm9⟩ := hcm9
      rw [hQ]
      exact ⟨(show zFr [F + 1, F + 2, F + 3] [(F, 1), (F, 3), (F, 5), (F, 6), (F, 7), (1, 1), (10, 1), (10, 2)] ph ph1536 from (zFr_trans (zFr_trans (zFr_mono f1 (by simp) (by simp)) (zFr_mono f2 (by simp) (by simp))) (zFr_mono f3 (by simp) (by simp)))), (f3.1 1 1 (by decide) (by decide)).trans h11, ⟨cm9, zFb_F f3 (by simp) (by simp <;> omega) (zFb_F f2 (by simp) (by simp <;> omega) hcm9)⟩, z9, _, Cs, ho9, rfl, Or.inl ⟨by omega, by decide, zFc_F f3 (by simp) (by rcases hF with e | e <;> subst e <;> simp) (zFc_F f2 (by simp) (by rcases hF with e | e <;> subst e <;> simp) (hc9 (by omega))), h3r, h3o⟩⟩
    · refine w_alu (pc' := 27) (st' := [.int (Int32.ofInt (-1))]) (ykc_128 (e := (0, .iconst (-1), 0)) rfl) rfl rfl ?_
      refine w_load (pc' := 28) (v := .int z9) (m := 1) (ykc_128 (e := (2, .iload_n kF1, 0)) rfl) rfl rfl ?_
      obtain ⟨z1537, e_z1537, h_z1537⟩ : ∃ zq : Int32, (Int32.ofInt (-1)) - z9 = zq ∧ zq.toInt = (-1 : Int) - z9.toInt := ⟨_, rfl, zm1sub (by omega) (by omega) (by omega)⟩
      refine w_alu (pc' := 29) (st' := [.int z1537]) (ykc_128 (e := (0, .isub, 0)) rfl) (by rw [← e_z1537]; rfl) rfl ?_
      refine w_ret (v := (some (.int z1537))) (ykc_128 (e := (7, .ireturn, 0)) rfl) (zr_v rfl) ?_
      obtain ⟨cm9, hcm9⟩ := hcm9
      rw [hQ]
      exact ⟨(show zFr [F + 1, F + 2, F + 3] [(F, 1), (F, 3), (F, 5), (F, 6), (F, 7), (1, 1), (10, 1), (10, 2)] ph ph1533 from (zFr_trans (zFr_mono f1 (by simp) (by simp)) (zFr_mono f2 (by simp) (by simp)))), h11, ⟨cm9, zFb_F f2 (by simp) (by simp <;> omega) hcm9⟩, z9, _, Cs, ho9, rfl, Or.inr ⟨by omega, by omega, ((f2.1 10 1 (by rcases hF with e | e <;> subst e <;> decide) (by rcases hF with e | e <;> subst e <;> decide)).trans ((f1.1 10 1 (by rcases hF with e | e <;> subst e <;> decide) (by rcases hF with e | e <;> subst e <;> decide)).trans hr)), ((f2.1 10 2 (by rcases hF with e | e <;> subst e <;> decide) (by rcases hF with e | e <;> subst e <;> decide)).trans ((f1.1 10 2 (by rcases hF with e | e <;> subst e <;> decide) (by rcases hF with e | e <;> subst e <;> decide)).trans ho))⟩⟩
  
end
section
/-! the two LIGHTS: answers and what is written, by W; printed by wip/z/z1k_light.py -/
/-- how many signs are digits, 20 at most -/
def zLm (ln : Nat) (t : Nat → Nat) (k : Nat) : Prop := k ≤ ln ∧ k ≤ 20 ∧ (∀ i, i < k → zdi (t i) = true) ∧ (k < ln → k < 20 → zdi (t k) = false)
theorem zLm_u {ln : Nat} {t : Nat → Nat} {k k2 : Nat} (h1 : zLm ln t k) (h2 : zLm ln t k2) : k = k2 := by
  obtain ⟨a1, a2, a3, a4⟩ := h1
  obtain ⟨b1, b2, b3, b4⟩ := h2
  rcases Nat.lt_trichotomy k k2 with e | e | e
  · have c1 := a4 (by omega) (by omega)
    rw [b3 k e] at c1
    cases c1
  · exact e
  · have c1 := b4 (by omega) (by omega)
    rw [a3 k2 e] at c1
    cases c1
theorem zdi_d {c : Nat} (h : zdi c = true) : 48 ≤ c ∧ c ≤ 57 := of_decide_eq_true h
theorem zc_rlight {ph : pm_H} {ln : Nat} {t : Nat → Nat} (hS : zSh ph) (hT : zTc ph ln t) : zM 75 [.ref 10, .ref 1] ph (fun v0 q => ∃ k, zLm ln t k ∧ ((0 < ln ∧ k = ln ∧ v0 = some (.int (Int32.ofInt (-1))) ∧ zFr [21] [(10, 4)] ph q ∧ zc q 10 4 = some (.int (zn ln)) ∧ ∀ i, i < ln → zc q 21 i = some (.int (zn (t i - 48)))) ∨ ((ln = 0 ∨ k < ln) ∧ v0 = some (.int (zn k)) ∧ ph = q))) := by
  obtain ⟨Q, hQ⟩ : ∃ Q : Option Value → pm_H → Prop, Q = (fun v0 q => ∃ k, zLm ln t k ∧ ((0 < ln ∧ k = ln ∧ v0 = some (.int (Int32.ofInt (-1))) ∧ zFr [21] [(10, 4)] ph q ∧ zc q 10 4 = some (.int (zn ln)) ∧ ∀ i, i < ln → zc q 21 i = some (.int (zn (t i - 48)))) ∨ ((ln = 0 ∨ k < ln) ∧ v0 = some (.int (zn k)) ∧ ph = q))) := ⟨_, rfl⟩
  rw [← hQ]
  refine zM_mk fun n D => ?_
  show zW n D 75 Q 0 [some (.ref 10), some (.ref 1), none, none] [] ph
  have c_0 : ((Int8.ofInt 20).toInt32).toInt = 20 := by decide
  have c_1 : (Int32.ofInt (-1)).toInt = -1 := by decide
  have c_2 : (Int32.ofInt 0).toInt = 0 := by decide
  have c_3 : (Int32.ofInt 1).toInt = 1 := by decide
  have hT0 := hT
  obtain ⟨gn, hn80, gt⟩ := hT
  have tn := znt (k := ln) (by omega)
  refine w_load (pc' := 1) (v := .ref 1) (m := 1) (ykc_75 (e := (2, .aload_n kF1, 0)) rfl) rfl rfl ?_
  refine w_cv (as := [.ref 1]) (r := []) (ykc_75 (e := (6, .invokevirtual 43, 0)) rfl) rfl rfl rfl rfl (zc_tsize hT0.1) (fun v1517 ph1518 hv => ?_)
  obtain ⟨rfl, rfl⟩ := hv
  show zW n D 75 Q 4 [some (.ref 10), some (.ref 1), none, none] [.int (zn ln)] ph
  refine w_store (pc' := 5) (L' := [some (.ref 10), some (.ref 1), some (.int (zn ln)), none]) (st' := []) (m := 1) (ykc_75 (e := (3, .istore_n kF2, 0)) rfl) rfl rfl ?_
  refine w_load (pc' := 6) (v := .int (zn ln)) (m := 1) (ykc_75 (e := (2, .iload_n kF2, 0)) rfl) rfl rfl ?_
  refine w_zne (ykc_75 (e := (4, .ifCond .ne 5, 11)) rfl) rfl (fun b1519 => ?_) (fun b1519 => ?_)
  · refine w_alu (pc' := 12) (st' := [.int (Int32.ofInt 0)]) (ykc_75 (e := (0, .iconst 0, 0)) rfl) rfl rfl ?_
    refine w_store (pc' := 13) (L' := [some (.ref 10), some (.ref 1), some (.int (zn ln)), some (.int (Int32.ofInt 0))]) (st' := []) (m := 1) (ykc_75 (e := (3, .istore_n kF3, 0)) rfl) rfl rfl ?_
    have hl1 : ∀ (n : Nat), ∀ (k : Nat), (k ≤ ln) → (k ≤ 20) → (∀ i, i < k → zdi (t i) = true) → zW n D 75 Q 13 [some (.ref 10), some (.ref 1), some (.int (zn ln)), some (.int (zn k))] [] ph := by
      intro n
      induction n using Nat.strongRecOn with
      | ind n ih =>
        intro k hk hk20 hd
        have tk := znt (k := k) (by omega)
        refine w_load (pc' := 14) (v := .int (zn k)) (m := 1) (ykc_75 (e := (2, .iload_n kF3, 0)) rfl) rfl rfl ?_
        refine w_load (pc' := 15) (v := .int (zn ln)) (m := 1) (ykc_75 (e := (2, .iload_n kF2, 0)) rfl) rfl rfl ?_
        refine w_ige (ykc_75 (e := (4, .if_icmp .ge 25, 40)) rfl) rfl (fun b1520 => ?_) (fun b1520 => ?_)
        · refine w_alu (pc' := 41) (st' := [.int (Int32.ofInt 0)]) (ykc_75 (e := (0, .iconst 0, 0)) rfl) rfl rfl ?_
          refine w_store (pc' := 42) (L' := [some (.ref 10), some (.ref 1), some (.int (zn ln)), some (.int (Int32.ofInt 0))]) (st' := []) (m := 1) (ykc_75 (e := (3, .istore_n kF3, 0)) rfl) rfl rfl ?_
          have ek : k = ln := by omega
          subst ek
          have hl2 : ∀ (n : Nat), ∀ (j : Nat) (p : pm_H), (j ≤ k) → (zFr [21] [] ph p) → (∀ i, i < j → zc p 21 i = some (.int (zn (t i - 48)))) → zW n D 75 Q 42 [some (.ref 10), some (.ref 1), some (.int (zn k)), some (.int (zn j))] [] p := by
            intro n
            induction n using Nat.strongRecOn with
            | ind n ih =>
              intro j p hj hf hg
              have tj := znt (k := j) (by omega)
              have hSp := zSh_F hf (by decide +kernel) hS
              have hTp := zTc_F hf (by simp) (by simp) (by simp) hT0
              refine w_load (pc' := 43) (v := .int (zn j)) (m := 1) (ykc_75 (e := (2, .iload_n kF3, 0)) rfl) rfl rfl ?_
              refine w_load (pc' := 44) (v := .int (zn k)) (m := 1) (ykc_75 (e := (2, .iload_n kF2, 0)) rfl) rfl rfl ?_
              refine w_ige (ykc_75 (e := (4, .if_icmp .ge 26, 70)) rfl) rfl (fun b1521 => ?_) (fun b1521 => ?_)
              · refine w_load (pc' := 71) (v := .ref 10) (m := 1) (ykc_75 (e := (2, .aload_n kF0, 0)) rfl) rfl rfl ?_
                refine w_load (pc' := 72) (v := .int (zn k)) (m := 1) (ykc_75 (e := (2, .iload_n kF2, 0)) rfl) rfl rfl ?_
                refine w_pf (pc' := 75) (ykc_75 (e := (5, .putfield 29, 0)) rfl) rfl rfl (fun ph1523 u1522 => ?_)
                refine w_alu (pc' := 76) (st' := [.int (Int32.ofInt (-1))]) (ykc_75 (e := (0, .iconst (-1), 0)) rfl) rfl rfl ?_
                refine w_ret (v := (some (.int (Int32.ofInt (-1))))) (ykc_75 (e := (7, .ireturn, 0)) rfl) (zr_v rfl) ?_
                rw [hQ]
                have ej : j = k := by omega
                subst ej
                exact ⟨j, ⟨hk, hk20, hd, fun h => absurd h (by omega)⟩, Or.inl ⟨by omega, rfl, rfl, zFr_trans (zFr_mono hf (by simp) (by simp)) (zFr_st u1522 (Or.inr (by simp))), u1522.1, fun i hi => (u1522.2.1 21 i (fun q => absurd q.1 (by decide))).trans (hg i hi)⟩⟩
              · refine w_load (pc' := 48) (v := .int (zn j)) (m := 1) (ykc_75 (e := (2, .iload_n kF3, 0)) rfl) rfl rfl ?_
                refine w_push (pc' := 50) (v := .int ((Int8.ofInt 20).toInt32)) (m := 2) (ykc_75 (e := (1, .bipush 20, 0)) rfl) rfl rfl ?_
                refine w_ige (ykc_75 (e := (4, .if_icmp .ge 20, 70)) rfl) rfl (fun q => by exfalso; omega) (fun b1524 => ?_)
                refine w_load (pc' := 54) (v := .ref 10) (m := 1) (ykc_75 (e := (2, .aload_n kF0, 0)) rfl) rfl rfl ?_
                refine w_gf (pc' := 57) (v := .ref 21) (ykc_75 (e := (5, .getfield 25, 0)) rfl) rfl ((hf.1 10 3 (by decide) (by decide)).trans (zsg hS zs_10_3)) rfl ?_
                refine w_load (pc' := 58) (v := .int (zn j)) (m := 1) (ykc_75 (e := (2, .iload_n kF3, 0)) rfl) rfl rfl ?_
                refine w_load (pc' := 59) (v := .ref 1) (m := 1) (ykc_75 (e := (2, .aload_n kF1, 0)) rfl) rfl rfl ?_
                refine w_load (pc' := 60) (v := .int (zn j)) (m := 1) (ykc_75 (e := (2, .iload_n kF3, 0)) rfl) rfl rfl ?_
                refine w_cv (as := [.ref 1, .int (zn j)]) (r := [.int (zn j), .ref 21]) (ykc_75 (e := (6, .invokevirtual 49, 0)) rfl) rfl rfl rfl rfl (zc_digit hSp hTp (k := j) (by omega)) (fun v1525 ph1526 hv => ?_)
                obtain ⟨rfl, z9, rfl, e9⟩ := hv
                have d9 := @zDi_c k j t
                have b9 := zdi_d (hd j (by omega))
                obtain rfl : z9 = zn (t j - 48) := zn_of (by omega)
                show zW n D 75 Q 63 [some (.ref 10), some (.ref 1), some (.int (zn k)), some (.int (zn j))] [.int (zn (t j - 48)), .int (zn j), .ref 21] p
                refine w_ias (pc' := 64) (k := j) (ykc_75 (e := (5, .iastore, 0)) rfl) (by omega) rfl (fun ph1528 u1527 => ?_)
                have e1529 : (zn j) + Int32.ofInt 1 = zn (j + 1) := (zaddN (a := j) (b := 1) (znt (by omega)) c_3 (by omega))
                have te1529 := znt (k := j + 1) (by omega)
                refine w_store (pc' := 67) (L' := [some (.ref 10), some (.ref 1), some (.int (zn k)), some (.int (zn (j + 1)))]) (st' := []) (m := 3) (ykc_75 (e := (3, .iinc 3 1, 0)) rfl) (by rw [← e1529]; rfl) rfl ?_
                refine w_gb (ykc_75 (e := (4, .goto (-25), 42)) rfl) (fun k1530 hk1530 => ?_)
                exact ih k1530 hk1530 (j + 1) _ (by omega) (zFr_add hf u1527 (Or.inl (by simp))) (fun i hi => by
                  by_cases e : i = j
                  · subst e; exact u1527.1
                  · exact (u1527.2.1 21 i (fun q => e q.2)).trans (hg i (by omega)))
          exact hl2 n 0 _ (Nat.zero_le _) zFr_refl (fun i hi => absurd hi (Nat.not_lt_zero i))
          
        · refine w_load (pc' := 19) (v := .int (zn k)) (m := 1) (ykc_75 (e := (2, .iload_n kF3, 0)) rfl) rfl rfl ?_
          refine w_push (pc' := 21) (v := .int ((Int8.ofInt 20).toInt32)) (m := 2) (ykc_75 (e := (1, .bipush 20, 0)) rfl) rfl rfl ?_
          refine w_ieq (ykc_75 (e := (4, .if_icmp .eq 11, 32)) rfl) rfl (fun b1531 => ?_) (fun b1531 => ?_)
          · refine w_load (pc' := 33) (v := .int (zn k)) (m := 1) (ykc_75 (e := (2, .iload_n kF3, 0)) rfl) rfl rfl ?_
            refine w_ret (v := (some (.int (zn k)))) (ykc_75 (e := (7, .ireturn, 0)) rfl) (zr_v rfl) ?_
            rw [hQ]
            exact ⟨k, ⟨hk, hk20, hd, fun h h2 => zdi_f (by omega)⟩, Or.inr ⟨Or.inr (by omega), rfl, rfl⟩⟩
          · refine w_load (pc' := 25) (v := .ref 1) (m := 1) (ykc_75 (e := (2, .aload_n kF1, 0)) rfl) rfl rfl ?_
            refine w_load (pc' := 26) (v := .int (zn k)) (m := 1) (ykc_75 (e := (2, .iload_n kF3, 0)) rfl) rfl rfl ?_
            refine w_cv (as := [.ref 1, .int (zn k)]) (r := []) (ykc_75 (e := (6, .invokevirtual 49, 0)) rfl) rfl rfl rfl rfl (zc_digit hS hT0 (k := k) (by omega)) (fun v1532 ph1533 hv => ?_)
            obtain ⟨rfl, z9, rfl, e9⟩ := hv
            have d9 := @zDi_c ln k t
            have b9 := @zDi_b ln k t
            show zW n D 75 Q 29 [some (.ref 10), some (.ref 1), some (.int (zn ln)), some (.int (zn k))] [.int z9] ph
            refine w_zge (ykc_75 (e := (4, .ifCond .ge 5, 34)) rfl) rfl (fun b1534 => ?_) (fun b1534 => ?_)
            · have e1535 : (zn k) + Int32.ofInt 1 = zn (k + 1) := (zaddN (a := k) (b := 1) (znt (by omega)) c_3 (by omega))
              have te1535 := znt (k := k + 1) (by omega)
              refine w_store (pc' := 37) (L' := [some (.ref 10), some (.ref 1), some (.int (zn ln)), some (.int (zn (k + 1)))]) (st' := []) (m := 3) (ykc_75 (e := (3, .iinc 3 1, 0)) rfl) (by rw [← e1535]; rfl) rfl ?_
              refine w_gb (ykc_75 (e := (4, .goto (-24), 13)) rfl) (fun k1536 hk1536 => ?_)
              exact ih k1536 hk1536 (k + 1) (by omega) (by omega) (fun i hi => by
                by_cases e : i = k
                · subst e; exact zdi_t (by omega)
                · exact hd i (by omega))
            · refine w_load (pc' := 33) (v := .int (zn k)) (m := 1) (ykc_75 (e := (2, .iload_n kF3, 0)) rfl) rfl rfl ?_
              refine w_ret (v := (some (.int (zn k)))) (ykc_75 (e := (7, .ireturn, 0)) rfl) (zr_v rfl) ?_
              rw [hQ]
              exact ⟨k, ⟨hk, hk20, hd, fun h h2 => zdi_f (by omega)⟩, Or.inr ⟨Or.inr (by omega), rfl, rfl⟩⟩
    exact hl1 n 0 (Nat.zero_le _) (by decide) (fun i hi => absurd hi (Nat.not_lt_zero i))
    
  · refine w_alu (pc' := 10) (st' := [.int (Int32.ofInt 0)]) (ykc_75 (e := (0, .iconst 0, 0)) rfl) rfl rfl ?_
    refine w_ret (v := (some (.int (Int32.ofInt 0)))) (ykc_75 (e := (7, .ireturn, 0)) rfl) (zr_v rfl) ?_
    rw [hQ]
    exact ⟨0, ⟨by omega, by decide, fun i hi => absurd hi (Nat.not_lt_zero i), fun h => absurd h (by omega)⟩, Or.inr ⟨Or.inl (by omega), rfl, rfl⟩⟩
theorem zc_lightR {ph : pm_H} {ln : Nat} {t : Nat → Nat} (hS : zSh ph) (hT : zTc ph ln t) : zM 127 [.ref 0] ph (fun v0 q => zFr [21] [(10, 4), (1, 1)] ph q ∧ zc q 1 1 = some (.int (zn 0)) ∧ ∃ (k : Nat) (y : Int32), zLm ln t k ∧ v0 = some (.int y) ∧ ((0 < ln ∧ k = ln ∧ y.toInt = (ln : Int) ∧ zc q 10 4 = some (.int (zn ln)) ∧ ∀ i, i < ln → zc q 21 i = some (.int (zn (t i - 48)))) ∨ ((ln = 0 ∨ k < ln) ∧ y.toInt = -1 - (k : Int) ∧ zc q 10 4 = zc ph 10 4 ∧ ∀ i, zc q 21 i = zc ph 21 i))) := by
  obtain ⟨Q, hQ⟩ : ∃ Q : Option Value → pm_H → Prop, Q = (fun v0 q => zFr [21] [(10, 4), (1, 1)] ph q ∧ zc q 1 1 = some (.int (zn 0)) ∧ ∃ (k : Nat) (y : Int32), zLm ln t k ∧ v0 = some (.int y) ∧ ((0 < ln ∧ k = ln ∧ y.toInt = (ln : Int) ∧ zc q 10 4 = some (.int (zn ln)) ∧ ∀ i, i < ln → zc q 21 i = some (.int (zn (t i - 48)))) ∨ ((ln = 0 ∨ k < ln) ∧ y.toInt = -1 - (k : Int) ∧ zc q 10 4 = zc ph 10 4 ∧ ∀ i, zc q 21 i = zc ph 21 i))) := ⟨_, rfl⟩
  rw [← hQ]
  refine zM_mk fun n D => ?_
  show zW n D 127 Q 0 [some (.ref 0), none, none] [] ph
  have c_0 : (Int32.ofInt (-1)).toInt = -1 := by decide
  have hT0 := hT
  obtain ⟨gn, hn80, gt⟩ := hT
  have tn := znt (k := ln) (by omega)
  refine w_load (pc' := 1) (v := .ref 0) (m := 1) (ykc_127 (e := (2, .aload_n kF0, 0)) rfl) rfl rfl ?_
  refine w_gf (pc' := 4) (v := .ref 1) (ykc_127 (e := (5, .getfield 10, 0)) rfl) rfl (zsg hS zs_0_0) rfl ?_
  refine w_cv (as := [.ref 1]) (r := []) (ykc_127 (e := (6, .invokevirtual 108, 0)) rfl) rfl rfl rfl rfl (zc_tsize hT0.1) (fun v1537 ph1538 hv => ?_)
  obtain ⟨rfl, rfl⟩ := hv
  show zW n D 127 Q 7 [some (.ref 0), none, none] [.int (zn ln)] ph
  refine w_store (pc' := 8) (L' := [some (.ref 0), some (.int (zn ln)), none]) (st' := []) (m := 1) (ykc_127 (e := (3, .istore_n kF1, 0)) rfl) rfl rfl ?_
  refine w_load (pc' := 9) (v := .ref 0) (m := 1) (ykc_127 (e := (2, .aload_n kF0, 0)) rfl) rfl rfl ?_
  refine w_gf (pc' := 12) (v := .ref 10) (ykc_127 (e := (5, .getfield 35, 0)) rfl) rfl (zsg hS zs_0_3) rfl ?_
  refine w_load (pc' := 13) (v := .ref 0) (m := 1) (ykc_127 (e := (2, .aload_n kF0, 0)) rfl) rfl rfl ?_
  refine w_gf (pc' := 16) (v := .ref 1) (ykc_127 (e := (5, .getfield 10, 0)) rfl) rfl (zsg hS zs_0_0) rfl ?_
  refine w_cv (as := [.ref 10, .ref 1]) (r := []) (ykc_127 (e := (6, .invokevirtual 154, 0)) rfl) rfl rfl rfl rfl (zc_rlight hS hT0) (fun v1539 ph1540 hv => ?_)
  rcases hv with ⟨k, hk, ⟨g0, g1, rfl, f1, g4, g5⟩ | ⟨g0, rfl, rfl⟩⟩
  · have tm1 : (Int32.ofInt (-1)).toInt = -1 := by decide
    show zW n D 127 Q 19 [some (.ref 0), some (.int (zn ln)), none] [.int (Int32.ofInt (-1))] ph1540
    refine w_store (pc' := 20) (L' := [some (.ref 0), some (.int (zn ln)), some (.int (Int32.ofInt (-1)))]) (st' := []) (m := 1) (ykc_127 (e := (3, .istore_n kF2, 0)) rfl) rfl rfl ?_
    refine w_load (pc' := 21) (v := .ref 0) (m := 1) (ykc_127 (e := (2, .aload_n kF0, 0)) rfl) rfl rfl ?_
    refine w_gf (pc' := 24) (v := .ref 1) (ykc_127 (e := (5, .getfield 10, 0)) rfl) rfl ((f1.1 0 0 (by decide) (by decide)).trans (zsg hS zs_0_0)) rfl ?_
    refine w_cv (as := [.ref 1]) (r := []) (ykc_127 (e := (6, .invokevirtual 119, 0)) rfl) rfl rfl rfl rfl (zc_tclear) (fun v1541 ph1542 hv => ?_)
    obtain ⟨rfl, f2, h11⟩ := hv
    show zW n D 127 Q 27 [some (.ref 0), some (.int (zn ln)), some (.int (Int32.ofInt (-1)))] [] ph1542
    refine w_load (pc' := 28) (v := .int (Int32.ofInt (-1))) (m := 1) (ykc_127 (e := (2, .iload_n kF2, 0)) rfl) rfl rfl ?_
    refine w_zlt (ykc_127 (e := (4, .ifCond .lt 9, 37)) rfl) rfl (fun b1543 => ?_) (fun q => by exfalso; omega)
    refine w_load (pc' := 38) (v := .int (zn ln)) (m := 1) (ykc_127 (e := (2, .iload_n kF1, 0)) rfl) rfl rfl ?_
    refine w_ret (v := (some (.int (zn ln)))) (ykc_127 (e := (7, .ireturn, 0)) rfl) (zr_v rfl) ?_
    rw [hQ]
    exact ⟨(show zFr [21] [(10, 4), (1, 1)] ph ph1542 from (zFr_trans (zFr_mono f1 (by simp) (by simp)) (zFr_mono f2 (by simp) (by simp)))), h11, k, _, hk, rfl, Or.inl ⟨g0, g1, znt (by omega), (f2.1 10 4 (by decide) (by decide)).trans g4, fun i hi => (f2.1 21 i (by simp) (by simp)).trans (g5 i hi)⟩⟩
  · have hk80 : k ≤ 80 := Nat.le_trans hk.1 hn80
    have tk := znt (k := k) (by omega)
    show zW n D 127 Q 19 [some (.ref 0), some (.int (zn ln)), none] [.int (zn k)] ph
    refine w_store (pc' := 20) (L' := [some (.ref 0), some (.int (zn ln)), some (.int (zn k))]) (st' := []) (m := 1) (ykc_127 (e := (3, .istore_n kF2, 0)) rfl) rfl rfl ?_
    refine w_load (pc' := 21) (v := .ref 0) (m := 1) (ykc_127 (e := (2, .aload_n kF0, 0)) rfl) rfl rfl ?_
    refine w_gf (pc' := 24) (v := .ref 1) (ykc_127 (e := (5, .getfield 10, 0)) rfl) rfl (zsg hS zs_0_0) rfl ?_
    refine w_cv (as := [.ref 1]) (r := []) (ykc_127 (e := (6, .invokevirtual 119, 0)) rfl) rfl rfl rfl rfl (zc_tclear) (fun v1544 ph1545 hv => ?_)
    obtain ⟨rfl, f2, h11⟩ := hv
    show zW n D 127 Q 27 [some (.ref 0), some (.int (zn ln)), some (.int (zn k))] [] ph1545
    refine w_load (pc' := 28) (v := .int (zn k)) (m := 1) (ykc_127 (e := (2, .iload_n kF2, 0)) rfl) rfl rfl ?_
    refine w_zlt (ykc_127 (e := (4, .ifCond .lt 9, 37)) rfl) rfl (fun q => by exfalso; omega) (fun b1546 => ?_)
    refine w_alu (pc' := 32) (st' := [.int (Int32.ofInt (-1))]) (ykc_127 (e := (0, .iconst (-1), 0)) rfl) rfl rfl ?_
    refine w_load (pc' := 33) (v := .int (zn k)) (m := 1) (ykc_127 (e := (2, .iload_n kF2, 0)) rfl) rfl rfl ?_
    obtain ⟨z1547, e_z1547, h_z1547⟩ : ∃ zq : Int32, (Int32.ofInt (-1)) - (zn k) = zq ∧ zq.toInt = (-1 : Int) - ((k : Nat) : Int) := ⟨_, rfl, zm1sub (by omega) (by omega) (by omega)⟩
    refine w_alu (pc' := 34) (st' := [.int z1547]) (ykc_127 (e := (0, .isub, 0)) rfl) (by rw [← e_z1547]; rfl) rfl ?_
    refine w_br (pc' := 38) (st' := [.int z1547]) (ykc_127 (e := (4, .goto 4, 38)) rfl) rfl ?_
    refine w_ret (v := (some (.int z1547))) (ykc_127 (e := (7, .ireturn, 0)) rfl) (zr_v rfl) ?_
    rw [hQ]
    exact ⟨(show zFr [21] [(10, 4), (1, 1)] ph ph1545 from (zFr_mono f2 (by simp) (by simp))), h11, k, _, hk, rfl, Or.inr ⟨g0, by omega, f2.1 10 4 (by decide) (by decide), fun i => f2.1 21 i (by simp) (by simp)⟩⟩
  
theorem zm_lightR {ph : pm_H} {ln : Nat} {t : Nat → Nat} (hS : zSh ph) (hn : zc ph 170 14 = some (.int (zn ln))) (hn80 : ln ≤ 80) (gt : ∀ i, i < ln → zc ph 176 i = some (.int (zn (t i))) ∧ t i < 256) : zM 210 [.ref 170] ph (fun v0 q => zFr [173, 178] [(170, 0), (170, 8), (170, 14), (170, 15), (170, 16), (170, 17)] ph q ∧ zc q 170 0 = some (.int (zn 0)) ∧ zc q 170 14 = some (.int (zn 0)) ∧ ∃ (k : Nat) (y : Int32), zLm ln t k ∧ v0 = some (.int y) ∧ ((0 < ln ∧ k = ln ∧ y.toInt = (ln : Int) ∧ zc q 170 8 = some (.int (zn ln)) ∧ ∀ i, i < ln → zc q 173 i = some (.int (zn (t i - 48)))) ∨ ((ln = 0 ∨ k < ln) ∧ y.toInt = -1 - (k : Int) ∧ zc q 170 8 = zc ph 170 8 ∧ ∀ i, zc q 173 i = zc ph 173 i))) := by
  obtain ⟨Q, hQ⟩ : ∃ Q : Option Value → pm_H → Prop, Q = (fun v0 q => zFr [173, 178] [(170, 0), (170, 8), (170, 14), (170, 15), (170, 16), (170, 17)] ph q ∧ zc q 170 0 = some (.int (zn 0)) ∧ zc q 170 14 = some (.int (zn 0)) ∧ ∃ (k : Nat) (y : Int32), zLm ln t k ∧ v0 = some (.int y) ∧ ((0 < ln ∧ k = ln ∧ y.toInt = (ln : Int) ∧ zc q 170 8 = some (.int (zn ln)) ∧ ∀ i, i < ln → zc q 173 i = some (.int (zn (t i - 48)))) ∨ ((ln = 0 ∨ k < ln) ∧ y.toInt = -1 - (k : Int) ∧ zc q 170 8 = zc ph 170 8 ∧ ∀ i, zc q 173 i = zc ph 173 i))) := ⟨_, rfl⟩
  rw [← hQ]
  refine zM_mk fun n D => ?_
  show zW n D 210 Q 0 [some (.ref 170), none, none] [] ph
  have c_0 : ((Int8.ofInt 20).toInt32).toInt = 20 := by decide
  have c_1 : ((Int8.ofInt 80).toInt32).toInt = 80 := by decide
  have c_2 : (Int32.ofInt (-1)).toInt = -1 := by decide
  have c_3 : (Int32.ofInt 0).toInt = 0 := by decide
  have c_4 : (Int32.ofInt 1).toInt = 1 := by decide
  have tn := znt (k := ln) (by omega)
  refine w_load (pc' := 1) (v := .ref 170) (m := 1) (ykc_210 (e := (2, .aload_n kF0, 0)) rfl) rfl rfl ?_
  refine w_alu (pc' := 2) (st' := [.int (Int32.ofInt 0), .ref 170]) (ykc_210 (e := (0, .iconst 0, 0)) rfl) rfl rfl ?_
  refine w_pf (pc' := 5) (ykc_210 (e := (5, .putfield 3, 0)) rfl) rfl rfl (fun ph1549 u1548 => ?_)
  refine w_load (pc' := 6) (v := .ref 170) (m := 1) (ykc_210 (e := (2, .aload_n kF0, 0)) rfl) rfl rfl ?_
  refine w_push (pc' := 8) (v := .int ((Int8.ofInt 80).toInt32)) (m := 2) (ykc_210 (e := (1, .bipush 80, 0)) rfl) rfl rfl ?_
  have f0 : zFr [] [(170, 0)] ph _ := zFr_st u1548 (Or.inr (by simp))
  refine w_cv (as := [.ref 170, .int ((Int8.ofInt 80).toInt32)]) (r := []) (ykc_210 (e := (6, .invokevirtual 175, 0)) rfl) rfl rfl rfl rfl (zm_begins (c := 80) (zSh_F f0 (by decide +kernel) hS) ((f0.1 170 14 (by decide) (by decide)).trans hn) hn80 (fun i hi => ⟨(f0.1 176 i (by simp) (by simp)).trans (gt i hi).1, (gt i hi).2⟩) (by decide) (by decide)) (fun v1550 ph1551 hv => ?_)
  obtain ⟨rfl, f1, h14, hT⟩ := hv
  show zW n D 210 Q 11 [some (.ref 170), none, none] [.int (zn ln)] ph1551
  refine w_alu (pc' := 12) (st' := []) (ykc_210 (e := (0, .pop, 0)) rfl) rfl rfl ?_
  refine w_alu (pc' := 13) (st' := [.int (Int32.ofInt 0)]) (ykc_210 (e := (0, .iconst 0, 0)) rfl) rfl rfl ?_
  refine w_store (pc' := 14) (L' := [some (.ref 170), some (.int (Int32.ofInt 0)), none]) (st' := []) (m := 1) (ykc_210 (e := (3, .istore_n kF1, 0)) rfl) rfl rfl ?_
  rw [Nat.min_eq_left hn80] at hT
  have hf1 : zFr [178] [(170, 15)] ph1551 ph1551 := zFr_refl
  have h00 := (f1.1 170 0 (by decide) (by decide)).trans u1548.1
  have hl1 : ∀ (n : Nat), ∀ (k : Nat) (p : pm_H), (k ≤ 20) → (zFr [178] [(170, 15)] ph1551 p) → (zTm p k ln ln t) → (∀ i, i < k → zdi (t i) = true) → (∀ i, i < k → zc p 178 i = some (.int (zn (t i - 48)))) → zW n D 210 Q 14 [some (.ref 170), some (.int (zn k)), none] [] p := by
    intro n
    induction n using Nat.strongRecOn with
    | ind n ih =>
      intro k p hk20 hf hTp hd hg
      have hk := hTp.2.2.1
      have tk := znt (k := k) (by omega)
      have F0 : zFr [178] [(170, 0), (170, 14), (170, 15), (170, 16), (170, 17)] ph p := zFr_trans (zFr_mono f0 (by simp) (by simp)) (zFr_trans (zFr_mono f1 (by simp) (by simp)) (zFr_mono hf (by simp) (by simp)))
      have hSp := zSh_F F0 (by decide +kernel) hS
      refine w_load (pc' := 15) (v := .int (zn k)) (m := 1) (ykc_210 (e := (2, .iload_n kF1, 0)) rfl) rfl rfl ?_
      refine w_push (pc' := 17) (v := .int ((Int8.ofInt 20).toInt32)) (m := 2) (ykc_210 (e := (1, .bipush 20, 0)) rfl) rfl rfl ?_
      refine w_ige (ykc_210 (e := (4, .if_icmp .ge 27, 44)) rfl) rfl (fun b1552 => ?_) (fun b1552 => ?_)
      · have hk9 : zLm ln t k := ⟨hk, hk20, hd, fun h h2 => absurd h2 (by omega)⟩
        refine w_load (pc' := 45) (v := .int (zn k)) (m := 1) (ykc_210 (e := (2, .iload_n kF1, 0)) rfl) rfl rfl ?_
        refine w_zeq (ykc_210 (e := (4, .ifCond .eq 14, 59)) rfl) rfl (fun b1553 => ?_) (fun b1553 => ?_)
        · refine w_alu (pc' := 60) (st' := [.int (Int32.ofInt (-1))]) (ykc_210 (e := (0, .iconst (-1), 0)) rfl) rfl rfl ?_
          refine w_load (pc' := 61) (v := .ref 170) (m := 1) (ykc_210 (e := (2, .aload_n kF0, 0)) rfl) rfl rfl ?_
          refine w_gf (pc' := 64) (v := .int (zn k)) (ykc_210 (e := (5, .getfield 139, 0)) rfl) rfl hTp.1 rfl ?_
          obtain ⟨z1554, e_z1554, h_z1554⟩ : ∃ zq : Int32, (Int32.ofInt (-1)) - (zn k) = zq ∧ zq.toInt = (-1 : Int) - ((k : Nat) : Int) := ⟨_, rfl, zm1sub (by omega) (by omega) (by omega)⟩
          refine w_alu (pc' := 65) (st' := [.int z1554]) (ykc_210 (e := (0, .isub, 0)) rfl) (by rw [← e_z1554]; rfl) rfl ?_
          refine w_ret (v := (some (.int z1554))) (ykc_210 (e := (7, .ireturn, 0)) rfl) (zr_v rfl) ?_
          rw [hQ]
          exact ⟨(show zFr [173, 178] [(170, 0), (170, 8), (170, 14), (170, 15), (170, 16), (170, 17)] ph p from (zFr_trans (zFr_trans (zFr_st u1548 (Or.inr (by simp))) (zFr_mono f1 (by simp) (by simp))) (zFr_mono hf (by simp) (by simp)))), (hf.1 170 0 (by decide) (by decide)).trans h00, (hf.1 170 14 (by decide) (by decide)).trans h14, k, _, hk9, rfl, Or.inr ⟨by omega, by omega, F0.1 170 8 (by decide) (by decide), fun i => F0.1 173 i (by simp) (by simp)⟩⟩
        · refine w_load (pc' := 49) (v := .ref 170) (m := 1) (ykc_210 (e := (2, .aload_n kF0, 0)) rfl) rfl rfl ?_
          refine w_gf (pc' := 52) (v := .int (zn k)) (ykc_210 (e := (5, .getfield 139, 0)) rfl) rfl hTp.1 rfl ?_
          refine w_load (pc' := 53) (v := .ref 170) (m := 1) (ykc_210 (e := (2, .aload_n kF0, 0)) rfl) rfl rfl ?_
          refine w_gf (pc' := 56) (v := .int (zn ln)) (ykc_210 (e := (5, .getfield 151, 0)) rfl) rfl hTp.2.1 rfl ?_
          refine w_ige (ykc_210 (e := (4, .if_icmp .ge 10, 66)) rfl) rfl (fun b1555 => ?_) (fun b1555 => ?_)
          · refine w_load (pc' := 67) (v := .ref 170) (m := 1) (ykc_210 (e := (2, .aload_n kF0, 0)) rfl) rfl rfl ?_
            refine w_load (pc' := 68) (v := .int (zn k)) (m := 1) (ykc_210 (e := (2, .iload_n kF1, 0)) rfl) rfl rfl ?_
            refine w_pf (pc' := 71) (ykc_210 (e := (5, .putfield 30, 0)) rfl) rfl rfl (fun ph1557 u1556 => ?_)
            refine w_alu (pc' := 72) (st' := [.int (Int32.ofInt 0)]) (ykc_210 (e := (0, .iconst 0, 0)) rfl) rfl rfl ?_
            refine w_store (pc' := 73) (L' := [some (.ref 170), some (.int (zn k)), some (.int (Int32.ofInt 0))]) (st' := []) (m := 1) (ykc_210 (e := (3, .istore_n kF2, 0)) rfl) rfl rfl ?_
            have hl2 : ∀ (n : Nat), ∀ (j : Nat) (p2 : pm_H), (j ≤ k) → (zFr [173] [] ph1557 p2) → (∀ i, i < j → zc p2 173 i = some (.int (zn (t i - 48)))) → zW n D 210 Q 73 [some (.ref 170), some (.int (zn k)), some (.int (zn j))] [] p2 := by
              intro n
              induction n using Nat.strongRecOn with
              | ind n ih =>
                intro j p2 hj hf2 hg2
                have tj := znt (k := j) (by omega)
                have F2 : zFr [173, 178] [(170, 0), (170, 8), (170, 14), (170, 15), (170, 16), (170, 17)] ph p2 := zFr_trans (zFr_mono F0 (by simp) (by simp)) (zFr_trans (zFr_st u1556 (Or.inr (by simp))) (zFr_mono hf2 (by simp) (by simp)))
                have hg3 : j < k → zc p2 178 j = some (.int (zn (t j - 48))) := fun h => (hf2.1 178 j (by simp) (by simp)).trans ((u1556.2.1 178 j (fun q => absurd q.1 (by decide))).trans (hg j h))
                refine w_load (pc' := 74) (v := .int (zn j)) (m := 1) (ykc_210 (e := (2, .iload_n kF2, 0)) rfl) rfl rfl ?_
                refine w_load (pc' := 75) (v := .int (zn k)) (m := 1) (ykc_210 (e := (2, .iload_n kF1, 0)) rfl) rfl rfl ?_
                refine w_ige (ykc_210 (e := (4, .if_icmp .ge 21, 96)) rfl) rfl (fun b1558 => ?_) (fun b1558 => ?_)
                · refine w_load (pc' := 97) (v := .int (zn k)) (m := 1) (ykc_210 (e := (2, .iload_n kF1, 0)) rfl) rfl rfl ?_
                  refine w_ret (v := (some (.int (zn k)))) (ykc_210 (e := (7, .ireturn, 0)) rfl) (zr_v rfl) ?_
                  rw [hQ]
                  have ej : j = k := by omega
                  subst ej
                  have ekl : j = ln := by omega
                  exact ⟨F2, (hf2.1 170 0 (by decide) (by decide)).trans ((u1556.2.1 170 0 (fun q => absurd q.2 (by decide))).trans ((hf.1 170 0 (by decide) (by decide)).trans h00)), (hf2.1 170 14 (by decide) (by decide)).trans ((u1556.2.1 170 14 (fun q => absurd q.2 (by decide))).trans ((hf.1 170 14 (by decide) (by decide)).trans h14)), j, _, hk9, rfl, Or.inl ⟨by omega, ekl, by omega, (hf2.1 170 8 (by decide) (by decide)).trans (by rw [← ekl]; exact u1556.1), fun i hi => hg2 i (by omega)⟩⟩
                · refine w_load (pc' := 79) (v := .ref 170) (m := 1) (ykc_210 (e := (2, .aload_n kF0, 0)) rfl) rfl rfl ?_
                  refine w_gf (pc' := 82) (v := .ref 173) (ykc_210 (e := (5, .getfield 37, 0)) rfl) rfl ((hf2.1 170 10 (by decide) (by decide)).trans ((u1556.2.1 170 10 (fun q => absurd q.2 (by decide))).trans ((hf.1 170 10 (by decide) (by decide)).trans ((f1.1 170 10 (by decide) (by decide)).trans ((u1548.2.1 170 10 (fun q => absurd q.2 (by decide))).trans (zsg hS zs_170_10)))))) rfl ?_
                  refine w_load (pc' := 83) (v := .int (zn j)) (m := 1) (ykc_210 (e := (2, .iload_n kF2, 0)) rfl) rfl rfl ?_
                  refine w_load (pc' := 84) (v := .ref 170) (m := 1) (ykc_210 (e := (2, .aload_n kF0, 0)) rfl) rfl rfl ?_
                  refine w_gf (pc' := 87) (v := .ref 178) (ykc_210 (e := (5, .getfield 53, 0)) rfl) rfl ((hf2.1 170 19 (by decide) (by decide)).trans ((u1556.2.1 170 19 (fun q => absurd q.2 (by decide))).trans ((hf.1 170 19 (by decide) (by decide)).trans ((f1.1 170 19 (by decide) (by decide)).trans ((u1548.2.1 170 19 (fun q => absurd q.2 (by decide))).trans (zsg hS zs_170_19)))))) rfl ?_
                  refine w_load (pc' := 88) (v := .int (zn j)) (m := 1) (ykc_210 (e := (2, .iload_n kF2, 0)) rfl) rfl rfl ?_
                  refine w_ialk (pc' := 89) (k := j) (ykc_210 (e := (5, .iaload, 0)) rfl) (hg3 (by omega)) (by omega) rfl ?_
                  refine w_ias (pc' := 90) (k := j) (ykc_210 (e := (5, .iastore, 0)) rfl) (by omega) rfl (fun ph1560 u1559 => ?_)
                  have e1561 : (zn j) + Int32.ofInt 1 = zn (j + 1) := (zaddN (a := j) (b := 1) (znt (by omega)) c_4 (by omega))
                  have te1561 := znt (k := j + 1) (by omega)
                  refine w_store (pc' := 93) (L' := [some (.ref 170), some (.int (zn k)), some (.int (zn (j + 1)))]) (st' := []) (m := 3) (ykc_210 (e := (3, .iinc 2 1, 0)) rfl) (by rw [← e1561]; rfl) rfl ?_
                  refine w_gb (ykc_210 (e := (4, .goto (-20), 73)) rfl) (fun k1562 hk1562 => ?_)
                  exact ih k1562 hk1562 (j + 1) _ (by omega) (zFr_add hf2 u1559 (Or.inl (by simp))) (fun i hi => by
                    by_cases e : i = j
                    · subst e; exact u1559.1
                    · exact (u1559.2.1 173 i (fun q => e q.2)).trans (hg2 i (by omega)))
            exact hl2 n 0 _ (Nat.zero_le _) zFr_refl (fun i hi => absurd hi (Nat.not_lt_zero i))
            
          · refine w_alu (pc' := 60) (st' := [.int (Int32.ofInt (-1))]) (ykc_210 (e := (0, .iconst (-1), 0)) rfl) rfl rfl ?_
            refine w_load (pc' := 61) (v := .ref 170) (m := 1) (ykc_210 (e := (2, .aload_n kF0, 0)) rfl) rfl rfl ?_
            refine w_gf (pc' := 64) (v := .int (zn k)) (ykc_210 (e := (5, .getfield 139, 0)) rfl) rfl hTp.1 rfl ?_
            obtain ⟨z1563, e_z1563, h_z1563⟩ : ∃ zq : Int32, (Int32.ofInt (-1)) - (zn k) = zq ∧ zq.toInt = (-1 : Int) - ((k : Nat) : Int) := ⟨_, rfl, zm1sub (by omega) (by omega) (by omega)⟩
            refine w_alu (pc' := 65) (st' := [.int z1563]) (ykc_210 (e := (0, .isub, 0)) rfl) (by rw [← e_z1563]; rfl) rfl ?_
            refine w_ret (v := (some (.int z1563))) (ykc_210 (e := (7, .ireturn, 0)) rfl) (zr_v rfl) ?_
            rw [hQ]
            exact ⟨(show zFr [173, 178] [(170, 0), (170, 8), (170, 14), (170, 15), (170, 16), (170, 17)] ph p from (zFr_trans (zFr_trans (zFr_st u1548 (Or.inr (by simp))) (zFr_mono f1 (by simp) (by simp))) (zFr_mono hf (by simp) (by simp)))), (hf.1 170 0 (by decide) (by decide)).trans h00, (hf.1 170 14 (by decide) (by decide)).trans h14, k, _, hk9, rfl, Or.inr ⟨by omega, by omega, F0.1 170 8 (by decide) (by decide), fun i => F0.1 173 i (by simp) (by simp)⟩⟩
      · refine w_load (pc' := 21) (v := .ref 170) (m := 1) (ykc_210 (e := (2, .aload_n kF0, 0)) rfl) rfl rfl ?_
        refine w_cv (as := [.ref 170]) (r := []) (ykc_210 (e := (6, .invokevirtual 171, 0)) rfl) rfl rfl rfl rfl (zm_isDigit hSp hTp) (fun v1564 ph1565 hv => ?_)
        obtain ⟨rfl, rfl⟩ := hv
        show zW n D 210 Q 24 [some (.ref 170), some (.int (zn k)), none] [.int (zI (decide (k < ln ∧ 48 ≤ t k ∧ t k ≤ 57)))] p
        refine w_beq (ykc_210 (e := (4, .ifCond .eq 20, 44)) rfl) rfl (fun b1566 => ?_) (fun b1566 => ?_)
        · have hk9 : zLm ln t k := ⟨hk, hk20, hd, fun h h2 => zdi_f (fun q => absurd (⟨h, q⟩ : k < ln ∧ 48 ≤ t k ∧ t k ≤ 57) (of_decide_eq_false b1566))⟩
          refine w_load (pc' := 45) (v := .int (zn k)) (m := 1) (ykc_210 (e := (2, .iload_n kF1, 0)) rfl) rfl rfl ?_
          refine w_zeq (ykc_210 (e := (4, .ifCond .eq 14, 59)) rfl) rfl (fun b1567 => ?_) (fun b1567 => ?_)
          · refine w_alu (pc' := 60) (st' := [.int (Int32.ofInt (-1))]) (ykc_210 (e := (0, .iconst (-1), 0)) rfl) rfl rfl ?_
            refine w_load (pc' := 61) (v := .ref 170) (m := 1) (ykc_210 (e := (2, .aload_n kF0, 0)) rfl) rfl rfl ?_
            refine w_gf (pc' := 64) (v := .int (zn k)) (ykc_210 (e := (5, .getfield 139, 0)) rfl) rfl hTp.1 rfl ?_
            obtain ⟨z1568, e_z1568, h_z1568⟩ : ∃ zq : Int32, (Int32.ofInt (-1)) - (zn k) = zq ∧ zq.toInt = (-1 : Int) - ((k : Nat) : Int) := ⟨_, rfl, zm1sub (by omega) (by omega) (by omega)⟩
            refine w_alu (pc' := 65) (st' := [.int z1568]) (ykc_210 (e := (0, .isub, 0)) rfl) (by rw [← e_z1568]; rfl) rfl ?_
            refine w_ret (v := (some (.int z1568))) (ykc_210 (e := (7, .ireturn, 0)) rfl) (zr_v rfl) ?_
            rw [hQ]
            exact ⟨(show zFr [173, 178] [(170, 0), (170, 8), (170, 14), (170, 15), (170, 16), (170, 17)] ph p from (zFr_trans (zFr_trans (zFr_st u1548 (Or.inr (by simp))) (zFr_mono f1 (by simp) (by simp))) (zFr_mono hf (by simp) (by simp)))), (hf.1 170 0 (by decide) (by decide)).trans h00, (hf.1 170 14 (by decide) (by decide)).trans h14, k, _, hk9, rfl, Or.inr ⟨by omega, by omega, F0.1 170 8 (by decide) (by decide), fun i => F0.1 173 i (by simp) (by simp)⟩⟩
          · refine w_load (pc' := 49) (v := .ref 170) (m := 1) (ykc_210 (e := (2, .aload_n kF0, 0)) rfl) rfl rfl ?_
            refine w_gf (pc' := 52) (v := .int (zn k)) (ykc_210 (e := (5, .getfield 139, 0)) rfl) rfl hTp.1 rfl ?_
            refine w_load (pc' := 53) (v := .ref 170) (m := 1) (ykc_210 (e := (2, .aload_n kF0, 0)) rfl) rfl rfl ?_
            refine w_gf (pc' := 56) (v := .int (zn ln)) (ykc_210 (e := (5, .getfield 151, 0)) rfl) rfl hTp.2.1 rfl ?_
            refine w_ige (ykc_210 (e := (4, .if_icmp .ge 10, 66)) rfl) rfl (fun b1569 => ?_) (fun b1569 => ?_)
            · refine w_load (pc' := 67) (v := .ref 170) (m := 1) (ykc_210 (e := (2, .aload_n kF0, 0)) rfl) rfl rfl ?_
              refine w_load (pc' := 68) (v := .int (zn k)) (m := 1) (ykc_210 (e := (2, .iload_n kF1, 0)) rfl) rfl rfl ?_
              refine w_pf (pc' := 71) (ykc_210 (e := (5, .putfield 30, 0)) rfl) rfl rfl (fun ph1571 u1570 => ?_)
              refine w_alu (pc' := 72) (st' := [.int (Int32.ofInt 0)]) (ykc_210 (e := (0, .iconst 0, 0)) rfl) rfl rfl ?_
              refine w_store (pc' := 73) (L' := [some (.ref 170), some (.int (zn k)), some (.int (Int32.ofInt 0))]) (st' := []) (m := 1) (ykc_210 (e := (3, .istore_n kF2, 0)) rfl) rfl rfl ?_
              have hl2 : ∀ (n : Nat), ∀ (j : Nat) (p2 : pm_H), (j ≤ k) → (zFr [173] [] ph1571 p2) → (∀ i, i < j → zc p2 173 i = some (.int (zn (t i - 48)))) → zW n D 210 Q 73 [some (.ref 170), some (.int (zn k)), some (.int (zn j))] [] p2 := by
                intro n
                induction n using Nat.strongRecOn with
                | ind n ih =>
                  intro j p2 hj hf2 hg2
                  have tj := znt (k := j) (by omega)
                  have F2 : zFr [173, 178] [(170, 0), (170, 8), (170, 14), (170, 15), (170, 16), (170, 17)] ph p2 := zFr_trans (zFr_mono F0 (by simp) (by simp)) (zFr_trans (zFr_st u1570 (Or.inr (by simp))) (zFr_mono hf2 (by simp) (by simp)))
                  have hg3 : j < k → zc p2 178 j = some (.int (zn (t j - 48))) := fun h => (hf2.1 178 j (by simp) (by simp)).trans ((u1570.2.1 178 j (fun q => absurd q.1 (by decide))).trans (hg j h))
                  refine w_load (pc' := 74) (v := .int (zn j)) (m := 1) (ykc_210 (e := (2, .iload_n kF2, 0)) rfl) rfl rfl ?_
                  refine w_load (pc' := 75) (v := .int (zn k)) (m := 1) (ykc_210 (e := (2, .iload_n kF1, 0)) rfl) rfl rfl ?_
                  refine w_ige (ykc_210 (e := (4, .if_icmp .ge 21, 96)) rfl) rfl (fun b1572 => ?_) (fun b1572 => ?_)
                  · refine w_load (pc' := 97) (v := .int (zn k)) (m := 1) (ykc_210 (e := (2, .iload_n kF1, 0)) rfl) rfl rfl ?_
                    refine w_ret (v := (some (.int (zn k)))) (ykc_210 (e := (7, .ireturn, 0)) rfl) (zr_v rfl) ?_
                    rw [hQ]
                    have ej : j = k := by omega
                    subst ej
                    have ekl : j = ln := by omega
                    exact ⟨F2, (hf2.1 170 0 (by decide) (by decide)).trans ((u1570.2.1 170 0 (fun q => absurd q.2 (by decide))).trans ((hf.1 170 0 (by decide) (by decide)).trans h00)), (hf2.1 170 14 (by decide) (by decide)).trans ((u1570.2.1 170 14 (fun q => absurd q.2 (by decide))).trans ((hf.1 170 14 (by decide) (by decide)).trans h14)), j, _, hk9, rfl, Or.inl ⟨by omega, ekl, by omega, (hf2.1 170 8 (by decide) (by decide)).trans (by rw [← ekl]; exact u1570.1), fun i hi => hg2 i (by omega)⟩⟩
                  · refine w_load (pc' := 79) (v := .ref 170) (m := 1) (ykc_210 (e := (2, .aload_n kF0, 0)) rfl) rfl rfl ?_
                    refine w_gf (pc' := 82) (v := .ref 173) (ykc_210 (e := (5, .getfield 37, 0)) rfl) rfl ((hf2.1 170 10 (by decide) (by decide)).trans ((u1570.2.1 170 10 (fun q => absurd q.2 (by decide))).trans ((hf.1 170 10 (by decide) (by decide)).trans ((f1.1 170 10 (by decide) (by decide)).trans ((u1548.2.1 170 10 (fun q => absurd q.2 (by decide))).trans (zsg hS zs_170_10)))))) rfl ?_
                    refine w_load (pc' := 83) (v := .int (zn j)) (m := 1) (ykc_210 (e := (2, .iload_n kF2, 0)) rfl) rfl rfl ?_
                    refine w_load (pc' := 84) (v := .ref 170) (m := 1) (ykc_210 (e := (2, .aload_n kF0, 0)) rfl) rfl rfl ?_
                    refine w_gf (pc' := 87) (v := .ref 178) (ykc_210 (e := (5, .getfield 53, 0)) rfl) rfl ((hf2.1 170 19 (by decide) (by decide)).trans ((u1570.2.1 170 19 (fun q => absurd q.2 (by decide))).trans ((hf.1 170 19 (by decide) (by decide)).trans ((f1.1 170 19 (by decide) (by decide)).trans ((u1548.2.1 170 19 (fun q => absurd q.2 (by decide))).trans (zsg hS zs_170_19)))))) rfl ?_
                    refine w_load (pc' := 88) (v := .int (zn j)) (m := 1) (ykc_210 (e := (2, .iload_n kF2, 0)) rfl) rfl rfl ?_
                    refine w_ialk (pc' := 89) (k := j) (ykc_210 (e := (5, .iaload, 0)) rfl) (hg3 (by omega)) (by omega) rfl ?_
                    refine w_ias (pc' := 90) (k := j) (ykc_210 (e := (5, .iastore, 0)) rfl) (by omega) rfl (fun ph1574 u1573 => ?_)
                    have e1575 : (zn j) + Int32.ofInt 1 = zn (j + 1) := (zaddN (a := j) (b := 1) (znt (by omega)) c_4 (by omega))
                    have te1575 := znt (k := j + 1) (by omega)
                    refine w_store (pc' := 93) (L' := [some (.ref 170), some (.int (zn k)), some (.int (zn (j + 1)))]) (st' := []) (m := 3) (ykc_210 (e := (3, .iinc 2 1, 0)) rfl) (by rw [← e1575]; rfl) rfl ?_
                    refine w_gb (ykc_210 (e := (4, .goto (-20), 73)) rfl) (fun k1576 hk1576 => ?_)
                    exact ih k1576 hk1576 (j + 1) _ (by omega) (zFr_add hf2 u1573 (Or.inl (by simp))) (fun i hi => by
                      by_cases e : i = j
                      · subst e; exact u1573.1
                      · exact (u1573.2.1 173 i (fun q => e q.2)).trans (hg2 i (by omega)))
              exact hl2 n 0 _ (Nat.zero_le _) zFr_refl (fun i hi => absurd hi (Nat.not_lt_zero i))
              
            · refine w_alu (pc' := 60) (st' := [.int (Int32.ofInt (-1))]) (ykc_210 (e := (0, .iconst (-1), 0)) rfl) rfl rfl ?_
              refine w_load (pc' := 61) (v := .ref 170) (m := 1) (ykc_210 (e := (2, .aload_n kF0, 0)) rfl) rfl rfl ?_
              refine w_gf (pc' := 64) (v := .int (zn k)) (ykc_210 (e := (5, .getfield 139, 0)) rfl) rfl hTp.1 rfl ?_
              obtain ⟨z1577, e_z1577, h_z1577⟩ : ∃ zq : Int32, (Int32.ofInt (-1)) - (zn k) = zq ∧ zq.toInt = (-1 : Int) - ((k : Nat) : Int) := ⟨_, rfl, zm1sub (by omega) (by omega) (by omega)⟩
              refine w_alu (pc' := 65) (st' := [.int z1577]) (ykc_210 (e := (0, .isub, 0)) rfl) (by rw [← e_z1577]; rfl) rfl ?_
              refine w_ret (v := (some (.int z1577))) (ykc_210 (e := (7, .ireturn, 0)) rfl) (zr_v rfl) ?_
              rw [hQ]
              exact ⟨(show zFr [173, 178] [(170, 0), (170, 8), (170, 14), (170, 15), (170, 16), (170, 17)] ph p from (zFr_trans (zFr_trans (zFr_st u1548 (Or.inr (by simp))) (zFr_mono f1 (by simp) (by simp))) (zFr_mono hf (by simp) (by simp)))), (hf.1 170 0 (by decide) (by decide)).trans h00, (hf.1 170 14 (by decide) (by decide)).trans h14, k, _, hk9, rfl, Or.inr ⟨by omega, by omega, F0.1 170 8 (by decide) (by decide), fun i => F0.1 173 i (by simp) (by simp)⟩⟩
        · refine w_load (pc' := 28) (v := .ref 170) (m := 1) (ykc_210 (e := (2, .aload_n kF0, 0)) rfl) rfl rfl ?_
          refine w_gf (pc' := 31) (v := .ref 178) (ykc_210 (e := (5, .getfield 53, 0)) rfl) rfl ((hf.1 170 19 (by decide) (by decide)).trans ((f1.1 170 19 (by decide) (by decide)).trans ((u1548.2.1 170 19 (fun q => absurd q.2 (by decide))).trans (zsg hS zs_170_19)))) rfl ?_
          refine w_load (pc' := 32) (v := .int (zn k)) (m := 1) (ykc_210 (e := (2, .iload_n kF1, 0)) rfl) rfl rfl ?_
          refine w_load (pc' := 33) (v := .ref 170) (m := 1) (ykc_210 (e := (2, .aload_n kF0, 0)) rfl) rfl rfl ?_
          refine w_alu (pc' := 34) (st' := [.int (Int32.ofInt 1), .ref 170, .int (zn k), .ref 178]) (ykc_210 (e := (0, .iconst 1, 0)) rfl) rfl rfl ?_
          have hdd := of_decide_eq_true b1566
          refine w_cv (as := [.ref 170, .int (Int32.ofInt 1)]) (r := [.int (zn k), .ref 178]) (ykc_210 (e := (6, .invokevirtual 224, 0)) rfl) rfl rfl rfl rfl (zm_num1 hSp hTp) (fun v1578 ph1579 hv => ?_)
          rcases hv with ⟨f2, ⟨-, rfl, hT2⟩ | ⟨hnd, -, -⟩⟩
          · show zW n D 210 Q 37 [some (.ref 170), some (.int (zn k)), none] [.int (zn (t k - 48)), .int (zn k), .ref 178] ph1579
            refine w_ias (pc' := 38) (k := k) (ykc_210 (e := (5, .iastore, 0)) rfl) (by omega) rfl (fun ph1581 u1580 => ?_)
            have e1582 : (zn k) + Int32.ofInt 1 = zn (k + 1) := (zaddN (a := k) (b := 1) (znt (by omega)) c_4 (by omega))
            have te1582 := znt (k := k + 1) (by omega)
            refine w_store (pc' := 41) (L' := [some (.ref 170), some (.int (zn (k + 1))), none]) (st' := []) (m := 3) (ykc_210 (e := (3, .iinc 1 1, 0)) rfl) (by rw [← e1582]; rfl) rfl ?_
            refine w_gb (ykc_210 (e := (4, .goto (-27), 14)) rfl) (fun k1583 hk1583 => ?_)
            exact ih k1583 hk1583 (k + 1) _ (by omega) (zFr_add (zFr_trans hf (zFr_mono f2 (by simp) (by simp))) u1580 (Or.inl (by simp))) (zTm_F (zFr_st u1580 (Or.inl (by simp)) : zFr [178] [] _ _) (by simp) (by simp) (by simp) hT2) (fun i hi => by
              by_cases e : i = k
              · subst e; exact zdi_t (by omega)
              · exact hd i (by omega)) (fun i hi => by
              by_cases e : i = k
              · subst e; exact u1580.1
              · exact (u1580.2.1 178 i (fun q => e q.2)).trans ((f2.1 178 i (by simp) (by simp)).trans (hg i (by omega))))
          · exact absurd hdd hnd
          
  exact hl1 n 0 _ (by decide) zFr_refl hT (fun i hi => absurd hi (Nat.not_lt_zero i)) (fun i hi => absurd hi (Nat.not_lt_zero i))
  
end
section
/-! a DAY's text: the class's Plan and the reference's acts, by W; printed by wip/z/z1l_plan.py -/
/-- an act's kind by its letter, or 5; how many digits it wants, 0 for no letter -/
def zdk (c : Nat) : Nat := if c = 110 then 0 else if c = 102 then 1 else if c = 103 then 2 else if c = 98 then 3 else if c = 112 then 4 else 5
def zdw (c : Nat) : Nat := if c = 110 then 1 else if c = 102 then 2 else if c = 103 then 2 else if c = 98 then 2 else if c = 112 then 3 else 0
theorem zdw_3 {c : Nat} : zdw c ≤ 3 := by
  unfold zdw
  (repeat' split) <;> omega
theorem zdw_k : ∀ k, k < 5 → zdw (zls [110, 102, 103, 98, 112] k) = (if k = 0 then 1 else if k = 4 then 3 else 2) ∧ zdk (zls [110, 102, 103, 98, 112] k) = k := by decide
theorem zdw_n {c : Nat} (h : ∀ k, k < 5 → c ≠ zls [110, 102, 103, 98, 112] k) : zdw c = 0 := by
  have h0 : c ≠ 110 := h 0 (by decide)
  have h1 : c ≠ 102 := h 1 (by decide)
  have h2 : c ≠ 103 := h 2 (by decide)
  have h3 : c ≠ 98 := h 3 (by decide)
  have h4 : c ≠ 112 := h 4 (by decide)
  unfold zdw
  rw [if_neg h0, if_neg h1, if_neg h2, if_neg h3, if_neg h4]
/-- where act i begins -/
def zDp (t : Nat → Nat) : Nat → Nat
  | 0 => 0
  | i + 1 => zDp t i + 1 + zdw (t (zDp t i))
/-- act i is whole below b -/
def zDg (b : Nat) (t : Nat → Nat) (i : Nat) : Prop := 0 < zdw (t (zDp t i)) ∧ zDp t i + zdw (t (zDp t i)) < b ∧ ∀ j, j < zdw (t (zDp t i)) → zdi (t (zDp t i + 1 + j)) = true
def zDok (b : Nat) (t : Nat → Nat) (k : Nat) : Prop := ∀ i, i < k → zDg b t i
/-- what stands at s is no whole act below b: the fault is at a -/
def zDb (b : Nat) (t : Nat → Nat) (s a : Nat) : Prop := s < b ∧ ((a = s ∧ zdw (t s) = 0) ∨ ∃ h, h < zdw (t s) ∧ a = s + 1 + h ∧ a ≤ b ∧ (∀ j, j < h → zdi (t (s + 1 + j)) = true) ∧ (a < b → zdi (t a) = false))
/-- k whole acts, then the end (well) or a fault at a -/
def zDo (b : Nat) (t : Nat → Nat) (ok : Bool) (a k : Nat) : Prop := zDok b t k ∧ ((ok = true ∧ a = b ∧ zDp t k = b) ∨ (ok = false ∧ zDb b t (zDp t k) a))
/-- the class, i signs on: c acts begun, w digits wanted, h had -/
def zDI (b : Nat) (t : Nat → Nat) (c w h i : Nat) : Prop := (c = 0 ∧ w = 0 ∧ h = 0 ∧ i = 0) ∨ ∃ k, c = k + 1 ∧ zDok b t k ∧ w = zdw (t (zDp t k)) ∧ 0 < w ∧ h ≤ w ∧ i = zDp t k + 1 + h ∧ ∀ j, j < h → zdi (t (zDp t k + 1 + j)) = true
section ZDY
variable {b : Nat} {t : Nat → Nat}
theorem zDp_ge {k : Nat} (h : zDok b t k) : 2 * k ≤ zDp t k := by
  induction k with
  | zero => exact Nat.zero_le _
  | succ k ih =>
    have h1 := ih (fun i hi => h i (by omega))
    have h2 := (h k (by omega)).1
    show 2 * (k + 1) ≤ zDp t k + 1 + zdw (t (zDp t k))
    omega
theorem zDp_mono {i k : Nat} (h : i < k) : zDp t i + 1 + zdw (t (zDp t i)) ≤ zDp t k := by
  induction k with
  | zero => omega
  | succ k ih =>
    show _ ≤ zDp t k + 1 + zdw (t (zDp t k))
    by_cases e : i = k
    · subst e; omega
    · have := ih (by omega)
      omega
theorem zDok_s {k : Nat} (h : zDok b t k) (hg : zDg b t k) : zDok b t (k + 1) := fun i hi => by
  by_cases e : i = k
  · subst e; exact hg
  · exact h i (by omega)
theorem zDI_w {c w h i : Nat} (hI : zDI b t c w h i) : w ≤ 3 ∧ h ≤ w ∧ (h < w → 0 < c) := by
  rcases hI with ⟨h1, h2, h3, h4⟩ | ⟨k, h1, h2, h3, h4, h5, h6, h7⟩
  · omega
  · have := @zdw_3 (t (zDp t k))
    omega
/-- the act is whole -/
theorem zDI_f {c w h i : Nat} (hI : zDI b t c w h i) (hh : ¬ h < w) (hib : i ≤ b) : zDok b t c ∧ zDp t c = i := by
  rcases hI with ⟨h1, h2, h3, h4⟩ | ⟨k, h1, h2, h3, h4, h5, h6, h7⟩
  · subst h1 h4
    exact ⟨fun i hi => absurd hi (Nat.not_lt_zero i), rfl⟩
  · subst h1
    have e : h = zdw (t (zDp t k)) := by omega
    refine ⟨zDok_s h2 ⟨by omega, by omega, fun j hj => h7 j (by omega)⟩, ?_⟩
    show zDp t k + 1 + zdw (t (zDp t k)) = i
    omega
theorem zDI_c {c w h i : Nat} (hI : zDI b t c w h i) (hh : ¬ h < w) (hib : i ≤ b) : 2 * c ≤ i := by
  obtain ⟨h1, h2⟩ := zDI_f hI hh hib
  have := zDp_ge h1
  omega
theorem zDI_k {c w h i : Nat} (hI : zDI b t c w h i) (hh : ¬ h < w) (hib : i < b) (hw : 0 < zdw (t i)) : zDI b t (c + 1) (zdw (t i)) 0 (i + 1) := by
  obtain ⟨h1, h2⟩ := zDI_f hI hh (Nat.le_of_lt hib)
  exact Or.inr ⟨c, rfl, h1, by rw [h2], hw, Nat.zero_le _, by omega, fun j hj => absurd hj (Nat.not_lt_zero j)⟩
theorem zDI_d {c w h i : Nat} (hI : zDI b t c w h i) (hh : h < w) (hd : zdi (t i) = true) : zDI b t c w (h + 1) (i + 1) := by
  rcases hI with ⟨h1, h2, h3, h4⟩ | ⟨k, h1, h2, h3, h4, h5, h6, h7⟩
  · omega
  · refine Or.inr ⟨k, h1, h2, h3, h4, hh, by omega, fun j hj => ?_⟩
    by_cases e : j = h
    · subst e; rw [← h6]; exact hd
    · exact h7 j (by omega)
/-- the ends -/
theorem zDI_xk {c w h i : Nat} (hI : zDI b t c w h i) (hh : ¬ h < w) (hib : i < b) (hw : zdw (t i) = 0) : zDo b t false i c := by
  obtain ⟨h1, h2⟩ := zDI_f hI hh (Nat.le_of_lt hib)
  exact ⟨h1, Or.inr ⟨rfl, by omega, Or.inl ⟨h2.symm, by rw [h2]; exact hw⟩⟩⟩
theorem zDI_xd {c w h i : Nat} (hI : zDI b t c w h i) (hh : h < w) (hib : i ≤ b) (hd : i < b → zdi (t i) = false) : ∃ k, c = k + 1 ∧ zDo b t false i k := by
  rcases hI with ⟨h1, h2, h3, h4⟩ | ⟨k, h1, h2, h3, h4, h5, h6, h7⟩
  · omega
  · exact ⟨k, h1, h2, Or.inr ⟨rfl, by omega, Or.inr ⟨h, by omega, h6, hib, h7, hd⟩⟩⟩
theorem zDI_e {c w h : Nat} (hI : zDI b t c w h b) (hh : ¬ h < w) : zDo b t true b c := by
  obtain ⟨h1, h2⟩ := zDI_f hI hh (Nat.le_refl _)
  exact ⟨h1, Or.inl ⟨rfl, rfl, h2⟩⟩
theorem zDb_g {k a : Nat} (h : zDb b t (zDp t k) a) : ¬ zDg b t k := fun hg => by
  obtain ⟨g1, g2, g3⟩ := hg
  obtain ⟨h0, ⟨h1, h2⟩ | ⟨e, h1, h2, h3, h4, h5⟩⟩ := h
  · omega
  · have h6 := g3 e h1
    rw [← h2, h5 (by omega)] at h6
    cases h6
theorem zDb_u {s a a' : Nat} (h : zDb b t s a) (h' : zDb b t s a') : a = a' := by
  obtain ⟨-, ⟨h1, h2⟩ | ⟨e, h1, h2, h3, h4, h5⟩⟩ := h
  · obtain ⟨-, ⟨k1, k2⟩ | ⟨e', k1, k2, k3, k4, k5⟩⟩ := h' <;> omega
  · obtain ⟨-, ⟨k1, k2⟩ | ⟨e', k1, k2, k3, k4, k5⟩⟩ := h'
    · omega
    · rcases Nat.lt_trichotomy e e' with q | q | q
      · have := k4 e q
        rw [← h2, h5 (by omega)] at this
        cases this
      · omega
      · have := h4 e' q
        rw [← k2, k5 (by omega)] at this
        cases this
theorem zDo_k {ok : Bool} {a k k' : Nat} (h : zDo b t ok a k) (h' : zDok b t k') : k' ≤ k := by
  by_cases q : k < k'
  · exfalso
    have hg := h' k q
    rcases h.2 with ⟨-, -, h3⟩ | ⟨-, h2⟩
    · have := hg.2.1
      omega
    · exact zDb_g h2 hg
  · omega
/-- one outcome alone -/
theorem zDo_u {ok ok' : Bool} {a a' k k' : Nat} (h : zDo b t ok a k) (h' : zDo b t ok' a' k') : ok = ok' ∧ a = a' ∧ k = k' := by
  have e : k = k' := Nat.le_antisymm (zDo_k h' h.1) (zDo_k h h'.1)
  subst e
  rcases h.2 with ⟨h1, h2, h3⟩ | ⟨h1, h2⟩ <;> rcases h'.2 with ⟨k1, k2, k3⟩ | ⟨k1, k2⟩
  · exact ⟨h1.trans k1.symm, h2.trans k2.symm, rfl⟩
  · have := k2.1
    omega
  · have := h2.1
    omega
  · exact ⟨h1.trans k1.symm, zDb_u h2 k2, rfl⟩
theorem zDo_a {ok : Bool} {a k : Nat} (h : zDo b t ok a k) : a ≤ b := by
  rcases h.2 with ⟨-, h2, -⟩ | ⟨-, h0, ⟨h1, -⟩ | ⟨e, -, -, h3, -⟩⟩ <;> omega
end ZDY
def zdT (w : Nat) : Nat := if w = 1 then 76 else if w = 2 then 78 else if w = 3 then 80 else 82
theorem zbr66 : (List.range 256).all (fun c => match pm_br (.tableswitch 81 98 112 #[77, 81, 81, 81, 77, 77, 81, 81, 81, 81, 81, 81, 75, 81, 79]) 75 1 [.int (zn c)] with
  | some (t, []) => Nat.beq t (zdT (zdw c))
  | _ => false) = true := by decide +kernel
theorem zbr66c {c k : Nat} (h : c < 256) (hk : zdw c = k) : pm_br (.tableswitch 81 98 112 #[77, 81, 81, 81, 77, 77, 81, 81, 81, 81, 81, 81, 75, 81, 79]) 75 1 [.int (zn c)] = some (zdT k, []) := by
  have h1 := List.all_eq_true.mp zbr66 c (List.mem_range.mpr h)
  generalize pm_br (.tableswitch 81 98 112 #[77, 81, 81, 81, 77, 77, 81, 81, 81, 81, 81, 81, 75, 81, 79]) 75 1 [.int (zn c)] = x at h1
  rw [hk] at h1
  match x, h1 with
  | some (t, []), h1 => rw [Nat.eq_of_beq_eq_true h1]
/-- what the class's Plan holds: c letters, digits, h of the last act's -/
def zDd (ph : pm_H) (t : Nat → Nat) (c h : Nat) : Prop := (∀ i, i < c → zc ph 158 i = some (.int (zn (t (zDp t i))))) ∧ ∀ i j, i < c → j < zdw (t (zDp t i)) → (i + 1 < c ∨ j < h) → zc ph 159 (3 * i + j) = some (.int (zn (t (zDp t i + 1 + j) - 48)))
theorem zDd_F {A : List Nat} {L : List (Nat × Nat)} {p q : pm_H} {t : Nat → Nat} {c h : Nat} (f : zFr A L p q) (h1 : 158 ∉ A ∧ 159 ∉ A) (h2 : (∀ i, (158, i) ∉ L) ∧ ∀ i, (159, i) ∉ L) (g : zDd p t c h) : zDd q t c h := ⟨fun i hi => (f.1 _ _ h1.1 (h2.1 i)).trans (g.1 i hi), fun i j a1 a2 a3 => (f.1 _ _ h1.2 (h2.2 _)).trans (g.2 i j a1 a2 a3)⟩
theorem zc_digitsOf {c : Nat} {ph : pm_H} (hc : c < 256) : zM 66 [.int (zn c)] ph (fun v0 q => ph = q ∧ v0 = some (.int (zn (zdw c)))) := by
  obtain ⟨Q, hQ⟩ : ∃ Q : Option Value → pm_H → Prop, Q = (fun v0 q => ph = q ∧ v0 = some (.int (zn (zdw c)))) := ⟨_, rfl⟩
  rw [← hQ]
  refine zM_mk fun n D => ?_
  show zW n D 66 Q 0 [some (.int (zn c))] [] ph
  have c_0 : (Int32.ofInt 0).toInt = 0 := by decide
  have c_1 : (Int32.ofInt 1).toInt = 1 := by decide
  have c_2 : (Int32.ofInt 2).toInt = 2 := by decide
  have c_3 : (Int32.ofInt 3).toInt = 3 := by decide
  have h4 := @zdw_3 c
  refine w_load (pc' := 1) (v := .int (zn c)) (m := 1) (ykc_66 (e := (2, .iload_n kF0, 0)) rfl) rfl rfl ?_
  rcases (show zdw c = 0 ∨ zdw c = 1 ∨ zdw c = 2 ∨ zdw c = 3 by omega) with e | e | e | e
  · refine w_br (pc' := 82) (st' := []) (ykc_66 (e := (4, .tableswitch 81 98 112 #[77, 81, 81, 81, 77, 77, 81, 81, 81, 81, 81, 81, 75, 81, 79], 75)) rfl) (zbr66c hc e) ?_
    refine w_alu (pc' := 83) (st' := [.int (Int32.ofInt 0)]) (ykc_66 (e := (0, .iconst 0, 0)) rfl) rfl rfl ?_
    refine w_ret (v := (some (.int (Int32.ofInt 0)))) (ykc_66 (e := (7, .ireturn, 0)) rfl) (zr_v rfl) ?_
    rw [hQ, e]
    exact ⟨rfl, rfl⟩
  · refine w_br (pc' := 76) (st' := []) (ykc_66 (e := (4, .tableswitch 81 98 112 #[77, 81, 81, 81, 77, 77, 81, 81, 81, 81, 81, 81, 75, 81, 79], 75)) rfl) (zbr66c hc e) ?_
    refine w_alu (pc' := 77) (st' := [.int (Int32.ofInt 1)]) (ykc_66 (e := (0, .iconst 1, 0)) rfl) rfl rfl ?_
    refine w_ret (v := (some (.int (Int32.ofInt 1)))) (ykc_66 (e := (7, .ireturn, 0)) rfl) (zr_v rfl) ?_
    rw [hQ, e]
    exact ⟨rfl, rfl⟩
  · refine w_br (pc' := 78) (st' := []) (ykc_66 (e := (4, .tableswitch 81 98 112 #[77, 81, 81, 81, 77, 77, 81, 81, 81, 81, 81, 81, 75, 81, 79], 75)) rfl) (zbr66c hc e) ?_
    refine w_alu (pc' := 79) (st' := [.int (Int32.ofInt 2)]) (ykc_66 (e := (0, .iconst 2, 0)) rfl) rfl rfl ?_
    refine w_ret (v := (some (.int (Int32.ofInt 2)))) (ykc_66 (e := (7, .ireturn, 0)) rfl) (zr_v rfl) ?_
    rw [hQ, e]
    exact ⟨rfl, rfl⟩
  · refine w_br (pc' := 80) (st' := []) (ykc_66 (e := (4, .tableswitch 81 98 112 #[77, 81, 81, 81, 77, 77, 81, 81, 81, 81, 81, 81, 75, 81, 79], 75)) rfl) (zbr66c hc e) ?_
    refine w_alu (pc' := 81) (st' := [.int (Int32.ofInt 3)]) (ykc_66 (e := (0, .iconst 3, 0)) rfl) rfl rfl ?_
    refine w_ret (v := (some (.int (Int32.ofInt 3)))) (ykc_66 (e := (7, .ireturn, 0)) rfl) (zr_v rfl) ?_
    rw [hQ, e]
    exact ⟨rfl, rfl⟩
theorem zc_takeKind {ph : pm_H} {c : Nat} {x : Int32} (hS : zSh ph) (hc : zc ph 157 2 = some (.int (zn c))) (h30 : c < 30) : zM 67 [.ref 157, .int x] ph (fun v0 q => v0 = some (.int (zI true)) ∧ zFr [158] [(157, 2)] ph q ∧ zc q 157 2 = some (.int (zn (c + 1))) ∧ zc q 158 c = some (.int x) ∧ ∀ i, i ≠ c → zc q 158 i = zc ph 158 i) := by
  obtain ⟨Q, hQ⟩ : ∃ Q : Option Value → pm_H → Prop, Q = (fun v0 q => v0 = some (.int (zI true)) ∧ zFr [158] [(157, 2)] ph q ∧ zc q 157 2 = some (.int (zn (c + 1))) ∧ zc q 158 c = some (.int x) ∧ ∀ i, i ≠ c → zc q 158 i = zc ph 158 i) := ⟨_, rfl⟩
  rw [← hQ]
  refine zM_mk fun n D => ?_
  show zW n D 67 Q 0 [some (.ref 157), some (.int x)] [] ph
  have c_0 : ((Int8.ofInt 30).toInt32).toInt = 30 := by decide
  have c_1 : (Int32.ofInt 0).toInt = 0 := by decide
  have c_2 : (Int32.ofInt 1).toInt = 1 := by decide
  have tc := znt (k := c) (by omega)
  refine w_load (pc' := 1) (v := .ref 157) (m := 1) (ykc_67 (e := (2, .aload_n kF0, 0)) rfl) rfl rfl ?_
  refine w_gf (pc' := 4) (v := .int (zn c)) (ykc_67 (e := (5, .getfield 18, 0)) rfl) rfl hc rfl ?_
  refine w_zlt (ykc_67 (e := (4, .ifCond .lt 12, 16)) rfl) rfl (fun q => by exfalso; omega) (fun b1517 => ?_)
  refine w_load (pc' := 8) (v := .ref 157) (m := 1) (ykc_67 (e := (2, .aload_n kF0, 0)) rfl) rfl rfl ?_
  refine w_gf (pc' := 11) (v := .int (zn c)) (ykc_67 (e := (5, .getfield 18, 0)) rfl) rfl hc rfl ?_
  refine w_push (pc' := 13) (v := .int ((Int8.ofInt 30).toInt32)) (m := 2) (ykc_67 (e := (1, .bipush 30, 0)) rfl) rfl rfl ?_
  refine w_ilt (ykc_67 (e := (4, .if_icmp .lt 5, 18)) rfl) rfl (fun b1518 => ?_) (fun q => by exfalso; omega)
  refine w_load (pc' := 19) (v := .ref 157) (m := 1) (ykc_67 (e := (2, .aload_n kF0, 0)) rfl) rfl rfl ?_
  refine w_gf (pc' := 22) (v := .ref 158) (ykc_67 (e := (5, .getfield 11, 0)) rfl) rfl (zsg hS zs_157_0) rfl ?_
  refine w_load (pc' := 23) (v := .ref 157) (m := 1) (ykc_67 (e := (2, .aload_n kF0, 0)) rfl) rfl rfl ?_
  refine w_gf (pc' := 26) (v := .int (zn c)) (ykc_67 (e := (5, .getfield 18, 0)) rfl) rfl hc rfl ?_
  refine w_load (pc' := 27) (v := .int x) (m := 1) (ykc_67 (e := (2, .iload_n kF1, 0)) rfl) rfl rfl ?_
  refine w_ias (pc' := 28) (k := c) (ykc_67 (e := (5, .iastore, 0)) rfl) (by omega) rfl (fun ph1520 u1519 => ?_)
  refine w_load (pc' := 29) (v := .ref 157) (m := 1) (ykc_67 (e := (2, .aload_n kF0, 0)) rfl) rfl rfl ?_
  refine w_alu (pc' := 30) (st' := [.ref 157, .ref 157]) (ykc_67 (e := (0, .dup, 0)) rfl) rfl rfl ?_
  refine w_gf (pc' := 33) (v := .int (zn c)) (ykc_67 (e := (5, .getfield 18, 0)) rfl) rfl ((u1519.2.1 157 2 (fun q => absurd q.1 (by decide))).trans hc) rfl ?_
  refine w_alu (pc' := 34) (st' := [.int (Int32.ofInt 1), .int (zn c), .ref 157]) (ykc_67 (e := (0, .iconst 1, 0)) rfl) rfl rfl ?_
  have e1521 : (zn c) + (Int32.ofInt 1) = zn (c + 1) := (zaddN (a := c) (b := 1) (znt (by omega)) c_2 (by omega)) 
  have te1521 := znt (k := c + 1) (by omega)
  refine w_alu (pc' := 35) (st' := [.int (zn (c + 1)), .ref 157]) (ykc_67 (e := (0, .iadd, 0)) rfl) (by rw [← e1521]; rfl) rfl ?_
  refine w_pf (pc' := 38) (ykc_67 (e := (5, .putfield 18, 0)) rfl) rfl rfl (fun ph1523 u1522 => ?_)
  refine w_alu (pc' := 39) (st' := [.int (Int32.ofInt 1)]) (ykc_67 (e := (0, .iconst 1, 0)) rfl) rfl rfl ?_
  refine w_ret (v := (some (.int (Int32.ofInt 1)))) (ykc_67 (e := (7, .ireturn, 0)) rfl) zr_z ?_
  rw [hQ, zi1]
  exact ⟨rfl, zFr_trans (zFr_st u1519 (Or.inl (by simp))) (zFr_st u1522 (Or.inr (by simp))), u1522.1, (u1522.2.1 158 c (fun q => absurd q.1 (by decide))).trans u1519.1, fun i hi => (u1522.2.1 158 i (fun q => absurd q.1 (by decide))).trans (u1519.2.1 158 i (fun q => hi q.2))⟩
theorem zc_takeDg {ph : pm_H} {k h : Nat} {z : Int32} (hS : zSh ph) (hc : zc ph 157 2 = some (.int (zn (k + 1)))) (h30 : k < 30) (h3 : h < 3) : zM 68 [.ref 157, .int z, .int (zn h)] ph (fun v0 q => (z.toInt < 0 ∧ ph = q ∧ v0 = some (.int (zI false))) ∨ (0 ≤ z.toInt ∧ v0 = some (.int (zI true)) ∧ zst ph q 159 (3 * k + h) (.int z))) := by
  obtain ⟨Q, hQ⟩ : ∃ Q : Option Value → pm_H → Prop, Q = (fun v0 q => (z.toInt < 0 ∧ ph = q ∧ v0 = some (.int (zI false))) ∨ (0 ≤ z.toInt ∧ v0 = some (.int (zI true)) ∧ zst ph q 159 (3 * k + h) (.int z))) := ⟨_, rfl⟩
  rw [← hQ]
  refine zM_mk fun n D => ?_
  show zW n D 68 Q 0 [some (.ref 157), some (.int z), some (.int (zn h)), none] [] ph
  have c_0 : (Int32.ofInt 0).toInt = 0 := by decide
  have c_1 : (Int32.ofInt 1).toInt = 1 := by decide
  have c_2 : (Int32.ofInt 3).toInt = 3 := by decide
  have tc := znt (k := k + 1) (by omega)
  have th := znt (k := h) (by omega)
  refine w_load (pc' := 1) (v := .ref 157) (m := 1) (ykc_68 (e := (2, .aload_n kF0, 0)) rfl) rfl rfl ?_
  refine w_gf (pc' := 4) (v := .int (zn (k + 1))) (ykc_68 (e := (5, .getfield 18, 0)) rfl) rfl hc rfl ?_
  refine w_alu (pc' := 5) (st' := [.int (Int32.ofInt 1), .int (zn (k + 1))]) (ykc_68 (e := (0, .iconst 1, 0)) rfl) rfl rfl ?_
  have e1524 : (zn (k + 1)) - (Int32.ofInt 1) = zn (k) := zsubN (a := k + 1) (b := 1) tc c_1 (by omega)
  have te1524 := znt (k := k) (by omega)
  refine w_alu (pc' := 6) (st' := [.int (zn (k))]) (ykc_68 (e := (0, .isub, 0)) rfl) (by show some ([.int ((zn (k + 1)) - (Int32.ofInt 1))] : List Value) = _; rw [e1524]) rfl ?_
  refine w_alu (pc' := 7) (st' := [.int (Int32.ofInt 3), .int (zn (k))]) (ykc_68 (e := (0, .iconst 3, 0)) rfl) rfl rfl ?_
  have e1525 : (zn (k)) * (Int32.ofInt 3) = zn (3 * k) := zn_of ((zmulN (a := k) (b := 3) (znt (by omega)) (by decide) (by omega) (by decide)).trans (by omega))
  have te1525 := znt (k := 3 * k) (by omega)
  refine w_alu (pc' := 8) (st' := [.int (zn (3 * k))]) (ykc_68 (e := (0, .imul, 0)) rfl) (by rw [← e1525]; rfl) rfl ?_
  refine w_load (pc' := 9) (v := .int (zn h)) (m := 1) (ykc_68 (e := (2, .iload_n kF2, 0)) rfl) rfl rfl ?_
  have e1526 : (zn (3 * k)) + (zn h) = zn (3 * k + h) := zn_of (by have h8 := ti_add (x := (zn (3 * k))) (y := (zn h)) (by omega) (by omega); omega)
  have te1526 := znt (k := 3 * k + h) (by omega)
  refine w_alu (pc' := 10) (st' := [.int (zn (3 * k + h))]) (ykc_68 (e := (0, .iadd, 0)) rfl) (by rw [← e1526]; rfl) rfl ?_
  refine w_store (pc' := 11) (L' := [some (.ref 157), some (.int z), some (.int (zn h)), some (.int (zn (3 * k + h)))]) (st' := []) (m := 1) (ykc_68 (e := (3, .istore_n kF3, 0)) rfl) rfl rfl ?_
  refine w_load (pc' := 12) (v := .int z) (m := 1) (ykc_68 (e := (2, .iload_n kF1, 0)) rfl) rfl rfl ?_
  refine w_zlt (ykc_68 (e := (4, .ifCond .lt 16, 28)) rfl) rfl (fun b1527 => ?_) (fun b1527 => ?_)
  · refine w_alu (pc' := 29) (st' := [.int (Int32.ofInt 0)]) (ykc_68 (e := (0, .iconst 0, 0)) rfl) rfl rfl ?_
    refine w_ret (v := (some (.int (Int32.ofInt 0)))) (ykc_68 (e := (7, .ireturn, 0)) rfl) zr_z ?_
    rw [hQ, zi0]
    exact Or.inl ⟨by omega, rfl, rfl⟩
  · refine w_load (pc' := 16) (v := .int (zn (3 * k + h))) (m := 1) (ykc_68 (e := (2, .iload_n kF3, 0)) rfl) rfl rfl ?_
    refine w_zlt (ykc_68 (e := (4, .ifCond .lt 12, 28)) rfl) rfl (fun q => by exfalso; omega) (fun b1528 => ?_)
    refine w_load (pc' := 20) (v := .int (zn (3 * k + h))) (m := 1) (ykc_68 (e := (2, .iload_n kF3, 0)) rfl) rfl rfl ?_
    refine w_load (pc' := 21) (v := .ref 157) (m := 1) (ykc_68 (e := (2, .aload_n kF0, 0)) rfl) rfl rfl ?_
    refine w_gf (pc' := 24) (v := .ref 159) (ykc_68 (e := (5, .getfield 15, 0)) rfl) rfl (zsg hS zs_157_1) rfl ?_
    have cn1529 : (Int32.ofNat 90).toInt = 90 := by decide
    refine w_aln (ykc_68 (e := (5, .arraylength, 0)) rfl) (zsl hS zl_159) rfl ?_
    refine w_ilt (ykc_68 (e := (4, .if_icmp .lt 5, 30)) rfl) rfl (fun b1530 => ?_) (fun q => by exfalso; omega)
    refine w_load (pc' := 31) (v := .ref 157) (m := 1) (ykc_68 (e := (2, .aload_n kF0, 0)) rfl) rfl rfl ?_
    refine w_gf (pc' := 34) (v := .ref 159) (ykc_68 (e := (5, .getfield 15, 0)) rfl) rfl (zsg hS zs_157_1) rfl ?_
    refine w_load (pc' := 35) (v := .int (zn (3 * k + h))) (m := 1) (ykc_68 (e := (2, .iload_n kF3, 0)) rfl) rfl rfl ?_
    refine w_load (pc' := 36) (v := .int z) (m := 1) (ykc_68 (e := (2, .iload_n kF1, 0)) rfl) rfl rfl ?_
    refine w_ias (pc' := 37) (k := 3 * k + h) (ykc_68 (e := (5, .iastore, 0)) rfl) (by omega) rfl (fun ph1532 u1531 => ?_)
    refine w_alu (pc' := 38) (st' := [.int (Int32.ofInt 1)]) (ykc_68 (e := (0, .iconst 1, 0)) rfl) rfl rfl ?_
    refine w_ret (v := (some (.int (Int32.ofInt 1)))) (ykc_68 (e := (7, .ireturn, 0)) rfl) zr_z ?_
    rw [hQ, zi1]
    exact Or.inr ⟨by omega, rfl, u1531⟩
theorem zc_planRead {ph : pm_H} {ln : Nat} {t : Nat → Nat} (hS : zSh ph) (hT : zTc ph ln t) : zM 65 [.ref 157, .ref 1] ph (fun v0 q => zFr [158, 159] [(157, 2)] ph q ∧ ∃ (ok : Bool) (a k : Nat), zDo (min ln 60) t ok a k ∧ ((ok = true ∧ ln ≤ 60 ∧ v0 = some (.int (Int32.ofInt (-1))) ∧ k ≤ 30 ∧ zc q 157 2 = some (.int (zn k)) ∧ zDd q t k 3) ∨ (¬ (ok = true ∧ ln ≤ 60) ∧ v0 = some (.int (zn a))))) := by
  obtain ⟨Q, hQ⟩ : ∃ Q : Option Value → pm_H → Prop, Q = (fun v0 q => zFr [158, 159] [(157, 2)] ph q ∧ ∃ (ok : Bool) (a k : Nat), zDo (min ln 60) t ok a k ∧ ((ok = true ∧ ln ≤ 60 ∧ v0 = some (.int (Int32.ofInt (-1))) ∧ k ≤ 30 ∧ zc q 157 2 = some (.int (zn k)) ∧ zDd q t k 3) ∨ (¬ (ok = true ∧ ln ≤ 60) ∧ v0 = some (.int (zn a))))) := ⟨_, rfl⟩
  rw [← hQ]
  refine zM_mk fun n D => ?_
  show zW n D 65 Q 0 [some (.ref 157), some (.ref 1), none, none, none, none] [] ph
  have c_0 : ((Int8.ofInt 60).toInt32).toInt = 60 := by decide
  have c_1 : (Int32.ofInt (-1)).toInt = -1 := by decide
  have c_2 : (Int32.ofInt 0).toInt = 0 := by decide
  have c_3 : (Int32.ofInt 1).toInt = 1 := by decide
  have hT0 := hT
  obtain ⟨gn, hn80, gt⟩ := hT
  have tn := znt (k := ln) (by omega)
  refine w_load (pc' := 1) (v := .ref 157) (m := 1) (ykc_65 (e := (2, .aload_n kF0, 0)) rfl) rfl rfl ?_
  refine w_alu (pc' := 2) (st' := [.int (Int32.ofInt 0), .ref 157]) (ykc_65 (e := (0, .iconst 0, 0)) rfl) rfl rfl ?_
  refine w_pf (pc' := 5) (ykc_65 (e := (5, .putfield 18, 0)) rfl) rfl rfl (fun ph1534 u1533 => ?_)
  refine w_alu (pc' := 6) (st' := [.int (Int32.ofInt 0)]) (ykc_65 (e := (0, .iconst 0, 0)) rfl) rfl rfl ?_
  refine w_store (pc' := 7) (L' := [some (.ref 157), some (.ref 1), some (.int (Int32.ofInt 0)), none, none, none]) (st' := []) (m := 1) (ykc_65 (e := (3, .istore_n kF2, 0)) rfl) rfl rfl ?_
  refine w_alu (pc' := 8) (st' := [.int (Int32.ofInt 0)]) (ykc_65 (e := (0, .iconst 0, 0)) rfl) rfl rfl ?_
  refine w_store (pc' := 9) (L' := [some (.ref 157), some (.ref 1), some (.int (Int32.ofInt 0)), some (.int (Int32.ofInt 0)), none, none]) (st' := []) (m := 1) (ykc_65 (e := (3, .istore_n kF3, 0)) rfl) rfl rfl ?_
  refine w_load (pc' := 10) (v := .ref 1) (m := 1) (ykc_65 (e := (2, .aload_n kF1, 0)) rfl) rfl rfl ?_
  have f0 : zFr [] [(157, 2)] ph _ := zFr_st u1533 (Or.inr (by simp))
  have hS1 := zSh_F f0 (by decide +kernel) hS
  have hT1 := zTc_F f0 (by simp) (by simp) (by simp) hT0
  refine w_cv (as := [.ref 1]) (r := []) (ykc_65 (e := (6, .invokevirtual 22, 0)) rfl) rfl rfl rfl rfl (zc_tsize hT1.1) (fun v1535 ph1536 hv => ?_)
  obtain ⟨rfl, rfl⟩ := hv
  show zW n D 65 Q 13 [some (.ref 157), some (.ref 1), some (.int (Int32.ofInt 0)), some (.int (Int32.ofInt 0)), none, none] [.int (zn ln)] ph1534
  refine w_store (pc' := 15) (L' := [some (.ref 157), some (.ref 1), some (.int (Int32.ofInt 0)), some (.int (Int32.ofInt 0)), some (.int (zn ln)), none]) (st' := []) (m := 2) (ykc_65 (e := (3, .istore 4, 0)) rfl) rfl rfl ?_
  refine w_alu (pc' := 16) (st' := [.int (Int32.ofInt 0)]) (ykc_65 (e := (0, .iconst 0, 0)) rfl) rfl rfl ?_
  refine w_store (pc' := 18) (L' := [some (.ref 157), some (.ref 1), some (.int (Int32.ofInt 0)), some (.int (Int32.ofInt 0)), some (.int (zn ln)), some (.int (Int32.ofInt 0))]) (st' := []) (m := 2) (ykc_65 (e := (3, .istore 5, 0)) rfl) rfl rfl ?_
  have hl1 : ∀ (n : Nat), ∀ (c w h i : Nat) (p : pm_H), (i ≤ ln) → (i ≤ 60) → (zDI (min ln 60) t c w h i) → (zFr [158, 159] [(157, 2)] ph1534 p) → (zc p 157 2 = some (.int (zn c))) → (zDd p t c h) → zW n D 65 Q 18 [some (.ref 157), some (.ref 1), some (.int (zn w)), some (.int (zn h)), some (.int (zn ln)), some (.int (zn i))] [] p := by
    intro n
    induction n using Nat.strongRecOn with
    | ind n ih =>
      intro c w h i p hiln hi60 hI hf h2 hd
      have hw := zDI_w hI
      have tw := znt (k := w) (by omega)
      have th := znt (k := h) (by omega)
      have ti := znt (k := i) (by omega)
      have hFp : zFr [158, 159] [(157, 2)] ph p := zFr_trans (zFr_mono f0 (by simp) (by simp)) hf
      have hSp := zSh_F hFp (by decide +kernel) hS
      have hTp := zTc_F hFp (by simp) (by simp) (by simp) hT0
      refine w_load (pc' := 20) (v := .int (zn i)) (m := 2) (ykc_65 (e := (2, .iload 5, 0)) rfl) rfl rfl ?_
      refine w_load (pc' := 22) (v := .int (zn ln)) (m := 2) (ykc_65 (e := (2, .iload 4, 0)) rfl) rfl rfl ?_
      refine w_ige (ykc_65 (e := (4, .if_icmp .ge 79, 101)) rfl) rfl (fun b1537 => ?_) (fun b1537 => ?_)
      · refine w_load (pc' := 102) (v := .int (zn h)) (m := 1) (ykc_65 (e := (2, .iload_n kF3, 0)) rfl) rfl rfl ?_
        refine w_load (pc' := 103) (v := .int (zn w)) (m := 1) (ykc_65 (e := (2, .iload_n kF2, 0)) rfl) rfl rfl ?_
        refine w_ige (ykc_65 (e := (4, .if_icmp .ge 8, 111)) rfl) rfl (fun b1538 => ?_) (fun b1538 => ?_)
        · refine w_alu (pc' := 112) (st' := [.int (Int32.ofInt (-1))]) (ykc_65 (e := (0, .iconst (-1), 0)) rfl) rfl rfl ?_
          refine w_ret (v := (some (.int (Int32.ofInt (-1))))) (ykc_65 (e := (7, .ireturn, 0)) rfl) (zr_v rfl) ?_
          rw [hQ]
          have ei : i = ln := by omega
          have em : min ln 60 = i := by omega
          have hc2 := zDI_c hI (by omega) (by omega)
          have ho : zDo (min ln 60) t true i c := by
            rw [em] at hI ⊢
            exact zDI_e hI (by omega)
          exact ⟨hFp, true, i, c, ho, Or.inl ⟨rfl, by omega, rfl, by omega, h2, hd.1, fun a j a1 a2 a3 => hd.2 a j a1 a2 (by
            by_cases e : a + 1 < c
            · exact Or.inl e
            · refine Or.inr ?_
              rcases hI with ⟨q1, -⟩ | ⟨k2, q1, q2, q3, -⟩
              · omega
              · have e3 : k2 = a := by omega
                rw [e3] at q3
                omega)⟩⟩
        · refine w_load (pc' := 108) (v := .int (zn ln)) (m := 2) (ykc_65 (e := (2, .iload 4, 0)) rfl) rfl rfl ?_
          refine w_br (pc' := 112) (st' := [.int (zn ln)]) (ykc_65 (e := (4, .goto 4, 112)) rfl) rfl ?_
          refine w_ret (v := (some (.int (zn ln)))) (ykc_65 (e := (7, .ireturn, 0)) rfl) (zr_v rfl) ?_
          rw [hQ]
          have ei : i = ln := by omega
          obtain ⟨k2, hk2, ho⟩ := zDI_xd hI (by omega) (by omega) (fun q => absurd q (by omega))
          subst ei
          exact ⟨hFp, false, i, k2, ho, Or.inr ⟨fun q => absurd q.1 (by decide), rfl⟩⟩
      · refine w_load (pc' := 27) (v := .int (zn i)) (m := 2) (ykc_65 (e := (2, .iload 5, 0)) rfl) rfl rfl ?_
        refine w_push (pc' := 29) (v := .int ((Int8.ofInt 60).toInt32)) (m := 2) (ykc_65 (e := (1, .bipush 60, 0)) rfl) rfl rfl ?_
        refine w_ine (ykc_65 (e := (4, .if_icmp .ne 6, 35)) rfl) rfl (fun b1539 => ?_) (fun b1539 => ?_)
        · refine w_load (pc' := 36) (v := .int (zn h)) (m := 1) (ykc_65 (e := (2, .iload_n kF3, 0)) rfl) rfl rfl ?_
          refine w_load (pc' := 37) (v := .int (zn w)) (m := 1) (ykc_65 (e := (2, .iload_n kF2, 0)) rfl) rfl rfl ?_
          refine w_ige (ykc_65 (e := (4, .if_icmp .ge 26, 63)) rfl) rfl (fun b1540 => ?_) (fun b1540 => ?_)
          · refine w_load (pc' := 64) (v := .ref 1) (m := 1) (ykc_65 (e := (2, .aload_n kF1, 0)) rfl) rfl rfl ?_
            refine w_load (pc' := 66) (v := .int (zn i)) (m := 2) (ykc_65 (e := (2, .iload 5, 0)) rfl) rfl rfl ?_
            have hbi : i < min ln 60 := by omega
            have h256 : t i < 256 := (hTp.2.2 i (by omega)).2
            have hc30 : 2 * c ≤ i := zDI_c hI (by omega) (by omega)
            have twi := znt (k := zdw (t i)) (by have := @zdw_3 (t i); omega)
            refine w_cv (as := [.ref 1, .int (zn i)]) (r := []) (ykc_65 (e := (6, .invokevirtual 36, 0)) rfl) rfl rfl rfl rfl (zc_at hSp hTp (k := i) (by omega)) (fun v1541 ph1542 hv => ?_)
            rcases hv with ⟨rfl, z9, rfl, e9⟩
            · have d9 := @zTi_c ln i t
              obtain rfl : z9 = zn (t i) := zn_of (by omega)
              show zW n D 65 Q 69 [some (.ref 157), some (.ref 1), some (.int (zn w)), some (.int (zn h)), some (.int (zn ln)), some (.int (zn i))] [.int (zn (t i))] p
              refine w_cs (as := [.int (zn (t i))]) (r := []) (ykc_65 (e := (6, .invokestatic 39, 0)) rfl) rfl rfl rfl rfl (zc_digitsOf h256) (fun v1543 ph1544 hv => ?_)
              obtain ⟨rfl, rfl⟩ := hv
              show zW n D 65 Q 72 [some (.ref 157), some (.ref 1), some (.int (zn w)), some (.int (zn h)), some (.int (zn ln)), some (.int (zn i))] [.int (zn (zdw (t i)))] p
              refine w_store (pc' := 73) (L' := [some (.ref 157), some (.ref 1), some (.int (zn (zdw (t i)))), some (.int (zn h)), some (.int (zn ln)), some (.int (zn i))]) (st' := []) (m := 1) (ykc_65 (e := (3, .istore_n kF2, 0)) rfl) rfl rfl ?_
              refine w_load (pc' := 74) (v := .int (zn (zdw (t i)))) (m := 1) (ykc_65 (e := (2, .iload_n kF2, 0)) rfl) rfl rfl ?_
              refine w_zeq (ykc_65 (e := (4, .ifCond .eq 16, 90)) rfl) rfl (fun b1545 => ?_) (fun b1545 => ?_)
              · refine w_load (pc' := 92) (v := .int (zn i)) (m := 2) (ykc_65 (e := (2, .iload 5, 0)) rfl) rfl rfl ?_
                refine w_ret (v := (some (.int (zn i)))) (ykc_65 (e := (7, .ireturn, 0)) rfl) (zr_v rfl) ?_
                rw [hQ]
                exact ⟨hFp, false, i, c, zDI_xk hI (by omega) hbi (by omega), Or.inr ⟨fun q => absurd q.1 (by decide), rfl⟩⟩
              · refine w_load (pc' := 78) (v := .ref 157) (m := 1) (ykc_65 (e := (2, .aload_n kF0, 0)) rfl) rfl rfl ?_
                refine w_load (pc' := 79) (v := .ref 1) (m := 1) (ykc_65 (e := (2, .aload_n kF1, 0)) rfl) rfl rfl ?_
                refine w_load (pc' := 81) (v := .int (zn i)) (m := 2) (ykc_65 (e := (2, .iload 5, 0)) rfl) rfl rfl ?_
                refine w_cv (as := [.ref 1, .int (zn i)]) (r := [.ref 157]) (ykc_65 (e := (6, .invokevirtual 36, 0)) rfl) rfl rfl rfl rfl (zc_at hSp hTp (k := i) (by omega)) (fun v1546 ph1547 hv => ?_)
                rcases hv with ⟨rfl, z8, rfl, e8⟩
                · have d9 := @zTi_c ln i t
                  obtain rfl : z8 = zn (t i) := zn_of (by omega)
                  show zW n D 65 Q 84 [some (.ref 157), some (.ref 1), some (.int (zn (zdw (t i)))), some (.int (zn h)), some (.int (zn ln)), some (.int (zn i))] [.int (zn (t i)), .ref 157] p
                  refine w_cv (as := [.ref 157, .int (zn (t i))]) (r := []) (ykc_65 (e := (6, .invokevirtual 42, 0)) rfl) rfl rfl rfl rfl (zc_takeKind (c := c) hSp h2 (by omega)) (fun v1548 ph1549 hv => ?_)
                  obtain ⟨rfl, f7, g1, g2, g3⟩ := hv
                  show zW n D 65 Q 87 [some (.ref 157), some (.ref 1), some (.int (zn (zdw (t i)))), some (.int (zn h)), some (.int (zn ln)), some (.int (zn i))] [.int (zI true)] ph1549
                  refine w_bne (ykc_65 (e := (4, .ifCond .ne 6, 93)) rfl) rfl (fun b1550 => ?_) (fun q => absurd q (by decide))
                  refine w_alu (pc' := 94) (st' := [.int (Int32.ofInt 0)]) (ykc_65 (e := (0, .iconst 0, 0)) rfl) rfl rfl ?_
                  refine w_store (pc' := 95) (L' := [some (.ref 157), some (.ref 1), some (.int (zn (zdw (t i)))), some (.int (Int32.ofInt 0)), some (.int (zn ln)), some (.int (zn i))]) (st' := []) (m := 1) (ykc_65 (e := (3, .istore_n kF3, 0)) rfl) rfl rfl ?_
                  have e1551 : (zn i) + Int32.ofInt 1 = zn (i + 1) := (zaddN (a := i) (b := 1) (znt (by omega)) c_3 (by omega))
                  have te1551 := znt (k := i + 1) (by omega)
                  refine w_store (pc' := 98) (L' := [some (.ref 157), some (.ref 1), some (.int (zn (zdw (t i)))), some (.int (Int32.ofInt 0)), some (.int (zn ln)), some (.int (zn (i + 1)))]) (st' := []) (m := 3) (ykc_65 (e := (3, .iinc 5 1, 0)) rfl) (by rw [← e1551]; rfl) rfl ?_
                  refine w_gb (ykc_65 (e := (4, .goto (-80), 18)) rfl) (fun k1552 hk1552 => ?_)
                  exact ih k1552 hk1552 (c + 1) (zdw (t i)) 0 (i + 1) _ (by omega) (by omega) (zDI_k hI (by omega) hbi (by omega)) (zFr_trans hf (zFr_mono f7 (by simp) (by simp))) g1 ⟨fun a ha => by
                    by_cases e : a = c
                    · subst e; rw [g2, (zDI_f hI (by omega) (by omega)).2]
                    · exact (g3 a e).trans (hd.1 a (by omega)), fun a j a1 a2 a3 => (f7.1 159 _ (by simp) (by simp)).trans (hd.2 a j (by omega) a2 (by
                    by_cases e : a + 1 < c
                    · exact Or.inl e
                    · refine Or.inr ?_
                      rcases hI with ⟨q1, -⟩ | ⟨k2, q1, q2, q3, -⟩
                      · omega
                      · have e3 : k2 = a := by omega
                        rw [e3] at q3
                        omega))⟩
                
            
          · refine w_load (pc' := 41) (v := .ref 157) (m := 1) (ykc_65 (e := (2, .aload_n kF0, 0)) rfl) rfl rfl ?_
            refine w_load (pc' := 42) (v := .ref 1) (m := 1) (ykc_65 (e := (2, .aload_n kF1, 0)) rfl) rfl rfl ?_
            refine w_load (pc' := 44) (v := .int (zn i)) (m := 2) (ykc_65 (e := (2, .iload 5, 0)) rfl) rfl rfl ?_
            obtain ⟨k, hk⟩ : ∃ k, c = k + 1 := ⟨c - 1, by omega⟩
            have hk30 : k < 30 := by
              rcases hI with ⟨g1, -, g3, -⟩ | ⟨k2, g1, g2, g3, g4, g5, g6, -⟩
              · omega
              · have := zDp_ge g2
                omega
            have hbi : i < min ln 60 := by omega
            refine w_cv (as := [.ref 1, .int (zn i)]) (r := [.ref 157]) (ykc_65 (e := (6, .invokevirtual 28, 0)) rfl) rfl rfl rfl rfl (zc_digit hSp hTp (k := i) (by omega)) (fun v1553 ph1554 hv => ?_)
            rcases hv with ⟨rfl, z9, rfl, e9⟩
            · have d9 := @zDi_c ln i t
              have b9 := @zDi_b ln i t
              show zW n D 65 Q 47 [some (.ref 157), some (.ref 1), some (.int (zn w)), some (.int (zn h)), some (.int (zn ln)), some (.int (zn i))] [.int z9, .ref 157] p
              refine w_load (pc' := 48) (v := .int (zn h)) (m := 1) (ykc_65 (e := (2, .iload_n kF3, 0)) rfl) rfl rfl ?_
              refine w_cv (as := [.ref 157, .int z9, .int (zn h)]) (r := []) (ykc_65 (e := (6, .invokevirtual 32, 0)) rfl) rfl rfl rfl rfl (zc_takeDg (z := z9) (k := k) hSp (by rw [← hk]; exact h2) hk30 (by omega)) (fun v1555 ph1556 hv => ?_)
              rcases hv with ⟨hz, rfl, rfl⟩ | ⟨hz, rfl, u9⟩
              · show zW n D 65 Q 51 [some (.ref 157), some (.ref 1), some (.int (zn w)), some (.int (zn h)), some (.int (zn ln)), some (.int (zn i))] [.int (zI false)] p
                refine w_bne (ykc_65 (e := (4, .ifCond .ne 6, 57)) rfl) rfl (fun q => absurd q (by decide)) (fun b1557 => ?_)
                refine w_load (pc' := 56) (v := .int (zn i)) (m := 2) (ykc_65 (e := (2, .iload 5, 0)) rfl) rfl rfl ?_
                refine w_ret (v := (some (.int (zn i)))) (ykc_65 (e := (7, .ireturn, 0)) rfl) (zr_v rfl) ?_
                rw [hQ]
                obtain ⟨k2, hk2, ho⟩ := zDI_xd hI (by omega) (by omega) (fun _ => zdi_f (by omega))
                exact ⟨hFp, false, i, k2, ho, Or.inr ⟨fun q => absurd q.1 (by decide), rfl⟩⟩
              · have hdi : zdi (t i) = true := zdi_t (by omega)
                have ez : z9 = zn (t i - 48) := zn_of (by omega)
                show zW n D 65 Q 51 [some (.ref 157), some (.ref 1), some (.int (zn w)), some (.int (zn h)), some (.int (zn ln)), some (.int (zn i))] [.int (zI true)] ph1556
                refine w_bne (ykc_65 (e := (4, .ifCond .ne 6, 57)) rfl) rfl (fun b1558 => ?_) (fun q => absurd q (by decide))
                have e1559 : (zn h) + Int32.ofInt 1 = zn (h + 1) := (zaddN (a := h) (b := 1) (znt (by omega)) c_3 (by omega))
                have te1559 := znt (k := h + 1) (by omega)
                refine w_store (pc' := 60) (L' := [some (.ref 157), some (.ref 1), some (.int (zn w)), some (.int (zn (h + 1))), some (.int (zn ln)), some (.int (zn i))]) (st' := []) (m := 3) (ykc_65 (e := (3, .iinc 3 1, 0)) rfl) (by rw [← e1559]; rfl) rfl ?_
                refine w_br (pc' := 95) (st' := []) (ykc_65 (e := (4, .goto 35, 95)) rfl) rfl ?_
                have e1560 : (zn i) + Int32.ofInt 1 = zn (i + 1) := (zaddN (a := i) (b := 1) (znt (by omega)) c_3 (by omega))
                have te1560 := znt (k := i + 1) (by omega)
                refine w_store (pc' := 98) (L' := [some (.ref 157), some (.ref 1), some (.int (zn w)), some (.int (zn (h + 1))), some (.int (zn ln)), some (.int (zn (i + 1)))]) (st' := []) (m := 3) (ykc_65 (e := (3, .iinc 5 1, 0)) rfl) (by rw [← e1560]; rfl) rfl ?_
                refine w_gb (ykc_65 (e := (4, .goto (-80), 18)) rfl) (fun k1561 hk1561 => ?_)
                exact ih k1561 hk1561 c w (h + 1) (i + 1) _ (by omega) (by omega) (zDI_d hI (by omega) hdi) (zFr_add hf u9 (Or.inl (by simp))) ((u9.2.1 157 2 (fun q => absurd q.1 (by decide))).trans h2) ⟨fun a ha => (u9.2.1 158 a (fun q => absurd q.1 (by decide))).trans (hd.1 a ha), fun a j a1 a2 a3 => by
                  have hj3 := @zdw_3 (t (zDp t a))
                  by_cases e : a = k ∧ j = h
                  · obtain ⟨e1, e2⟩ := e
                    subst e1 e2
                    rw [u9.1, ez]
                    rcases hI with ⟨g1, -⟩ | ⟨k2, g1, -, -, -, -, g6, -⟩
                    · omega
                    · have e3 : k2 = a := by omega
                      rw [show i = zDp t a + 1 + j by rw [← e3]; exact g6]
                  · exact (u9.2.1 159 (3 * a + j) (fun q => by have q2 := q.2; omega)).trans (hd.2 a j a1 a2 (by omega))⟩
              
            
        · refine w_load (pc' := 34) (v := .int (zn i)) (m := 2) (ykc_65 (e := (2, .iload 5, 0)) rfl) rfl rfl ?_
          refine w_ret (v := (some (.int (zn i)))) (ykc_65 (e := (7, .ireturn, 0)) rfl) (zr_v rfl) ?_
          rw [hQ]
          have ei : i = 60 := by omega
          have em : min ln 60 = i := by omega
          by_cases hh : h < w
          · obtain ⟨k2, hk2, ho⟩ := zDI_xd hI hh (by omega) (fun q => absurd q (by omega))
            exact ⟨hFp, false, i, k2, ho, Or.inr ⟨fun q => absurd q.1 (by decide), rfl⟩⟩
          · have ho : zDo (min ln 60) t true i c := by
              rw [em] at hI ⊢
              exact zDI_e hI hh
            exact ⟨hFp, true, i, c, ho, Or.inr ⟨fun q => absurd q.2 (by omega), rfl⟩⟩
  exact hl1 n 0 0 0 0 _ (Nat.zero_le _) (by decide) (Or.inl ⟨rfl, rfl, rfl, rfl⟩) zFr_refl u1533.1 ⟨fun a ha => absurd ha (Nat.not_lt_zero a), fun a j ha => absurd ha (Nat.not_lt_zero a)⟩
  
theorem zc_plKind {ph : pm_H} {k i : Nat} {x y : Int32} (hS : zSh ph) (hx : x.toInt = (i : Int)) (hk : zc ph 157 2 = some (.int (zn k))) (h30 : k ≤ 30) (hi : i < k) (hy : zc ph 158 i = some (.int y)) : zM 63 [.ref 157, .int x] ph (fun v0 q => ph = q ∧ v0 = some (.int y)) := by
  obtain ⟨Q, hQ⟩ : ∃ Q : Option Value → pm_H → Prop, Q = (fun v0 q => ph = q ∧ v0 = some (.int y)) := ⟨_, rfl⟩
  rw [← hQ]
  refine zM_mk fun n D => ?_
  show zW n D 63 Q 0 [some (.ref 157), some (.int x)] [] ph
  have c_0 : ((Int8.ofInt 30).toInt32).toInt = 30 := by decide
  have c_1 : (Int32.ofInt (-1)).toInt = -1 := by decide
  have tk := znt (k := k) (by omega)
  refine w_load (pc' := 1) (v := .int x) (m := 1) (ykc_63 (e := (2, .iload_n kF1, 0)) rfl) rfl rfl ?_
  refine w_zlt (ykc_63 (e := (4, .ifCond .lt 26, 27)) rfl) rfl (fun q => by exfalso; omega) (fun b1562 => ?_)
  refine w_load (pc' := 5) (v := .int x) (m := 1) (ykc_63 (e := (2, .iload_n kF1, 0)) rfl) rfl rfl ?_
  refine w_load (pc' := 6) (v := .ref 157) (m := 1) (ykc_63 (e := (2, .aload_n kF0, 0)) rfl) rfl rfl ?_
  refine w_gf (pc' := 9) (v := .int (zn k)) (ykc_63 (e := (5, .getfield 18, 0)) rfl) rfl hk rfl ?_
  refine w_ige (ykc_63 (e := (4, .if_icmp .ge 18, 27)) rfl) rfl (fun q => by exfalso; omega) (fun b1563 => ?_)
  refine w_load (pc' := 13) (v := .int x) (m := 1) (ykc_63 (e := (2, .iload_n kF1, 0)) rfl) rfl rfl ?_
  refine w_push (pc' := 15) (v := .int ((Int8.ofInt 30).toInt32)) (m := 2) (ykc_63 (e := (1, .bipush 30, 0)) rfl) rfl rfl ?_
  refine w_ige (ykc_63 (e := (4, .if_icmp .ge 12, 27)) rfl) rfl (fun q => by exfalso; omega) (fun b1564 => ?_)
  refine w_load (pc' := 19) (v := .ref 157) (m := 1) (ykc_63 (e := (2, .aload_n kF0, 0)) rfl) rfl rfl ?_
  refine w_gf (pc' := 22) (v := .ref 158) (ykc_63 (e := (5, .getfield 11, 0)) rfl) rfl (zsg hS zs_157_0) rfl ?_
  refine w_load (pc' := 23) (v := .int x) (m := 1) (ykc_63 (e := (2, .iload_n kF1, 0)) rfl) rfl rfl ?_
  refine w_ialk (pc' := 24) (k := i) (ykc_63 (e := (5, .iaload, 0)) rfl) hy (by omega) rfl ?_
  refine w_br (pc' := 28) (st' := [.int y]) (ykc_63 (e := (4, .goto 4, 28)) rfl) rfl ?_
  refine w_ret (v := (some (.int y))) (ykc_63 (e := (7, .ireturn, 0)) rfl) (zr_v rfl) ?_
  rw [hQ]
  exact ⟨rfl, rfl⟩
theorem zc_plDigit {ph : pm_H} {k i j : Nat} {x z y : Int32} (hS : zSh ph) (hx : x.toInt = (i : Int)) (hz : z.toInt = (j : Int)) (hk : zc ph 157 2 = some (.int (zn k))) (h30 : k ≤ 30) (hi : i < k) (hj : j < 3) (hy : zc ph 159 (3 * i + j) = some (.int y)) : zM 64 [.ref 157, .int x, .int z] ph (fun v0 q => ph = q ∧ v0 = some (.int y)) := by
  obtain ⟨Q, hQ⟩ : ∃ Q : Option Value → pm_H → Prop, Q = (fun v0 q => ph = q ∧ v0 = some (.int y)) := ⟨_, rfl⟩
  rw [← hQ]
  refine zM_mk fun n D => ?_
  show zW n D 64 Q 0 [some (.ref 157), some (.int x), some (.int z), none] [] ph
  have c_0 : ((Int8.ofInt 30).toInt32).toInt = 30 := by decide
  have c_1 : (Int32.ofInt (-1)).toInt = -1 := by decide
  have c_2 : (Int32.ofInt 0).toInt = 0 := by decide
  have c_3 : (Int32.ofInt 1).toInt = 1 := by decide
  have c_4 : (Int32.ofInt 3).toInt = 3 := by decide
  have tk := znt (k := k) (by omega)
  refine w_load (pc' := 1) (v := .int x) (m := 1) (ykc_64 (e := (2, .iload_n kF1, 0)) rfl) rfl rfl ?_
  refine w_zlt (ykc_64 (e := (4, .ifCond .lt 30, 31)) rfl) rfl (fun q => by exfalso; omega) (fun b1565 => ?_)
  refine w_load (pc' := 5) (v := .int x) (m := 1) (ykc_64 (e := (2, .iload_n kF1, 0)) rfl) rfl rfl ?_
  refine w_load (pc' := 6) (v := .ref 157) (m := 1) (ykc_64 (e := (2, .aload_n kF0, 0)) rfl) rfl rfl ?_
  refine w_gf (pc' := 9) (v := .int (zn k)) (ykc_64 (e := (5, .getfield 18, 0)) rfl) rfl hk rfl ?_
  refine w_ige (ykc_64 (e := (4, .if_icmp .ge 22, 31)) rfl) rfl (fun q => by exfalso; omega) (fun b1566 => ?_)
  refine w_load (pc' := 13) (v := .int x) (m := 1) (ykc_64 (e := (2, .iload_n kF1, 0)) rfl) rfl rfl ?_
  refine w_push (pc' := 15) (v := .int ((Int8.ofInt 30).toInt32)) (m := 2) (ykc_64 (e := (1, .bipush 30, 0)) rfl) rfl rfl ?_
  refine w_ige (ykc_64 (e := (4, .if_icmp .ge 16, 31)) rfl) rfl (fun q => by exfalso; omega) (fun b1567 => ?_)
  refine w_load (pc' := 19) (v := .int z) (m := 1) (ykc_64 (e := (2, .iload_n kF2, 0)) rfl) rfl rfl ?_
  refine w_zlt (ykc_64 (e := (4, .ifCond .lt 12, 31)) rfl) rfl (fun q => by exfalso; omega) (fun b1568 => ?_)
  refine w_load (pc' := 23) (v := .int z) (m := 1) (ykc_64 (e := (2, .iload_n kF2, 0)) rfl) rfl rfl ?_
  refine w_alu (pc' := 24) (st' := [.int (Int32.ofInt 3), .int z]) (ykc_64 (e := (0, .iconst 3, 0)) rfl) rfl rfl ?_
  refine w_ige (ykc_64 (e := (4, .if_icmp .ge 7, 31)) rfl) rfl (fun q => by exfalso; omega) (fun b1569 => ?_)
  refine w_alu (pc' := 28) (st' := [.int (Int32.ofInt 1)]) (ykc_64 (e := (0, .iconst 1, 0)) rfl) rfl rfl ?_
  refine w_br (pc' := 32) (st' := [.int (Int32.ofInt 1)]) (ykc_64 (e := (4, .goto 4, 32)) rfl) rfl ?_
  refine w_store (pc' := 33) (L' := [some (.ref 157), some (.int x), some (.int z), some (.int (Int32.ofInt 1))]) (st' := []) (m := 1) (ykc_64 (e := (3, .istore_n kF3, 0)) rfl) rfl rfl ?_
  refine w_load (pc' := 34) (v := .int (Int32.ofInt 1)) (m := 1) (ykc_64 (e := (2, .iload_n kF3, 0)) rfl) rfl rfl ?_
  refine w_zeq (ykc_64 (e := (4, .ifCond .eq 16, 50)) rfl) rfl (fun q => absurd q (by decide)) (fun b1570 => ?_)
  refine w_load (pc' := 38) (v := .ref 157) (m := 1) (ykc_64 (e := (2, .aload_n kF0, 0)) rfl) rfl rfl ?_
  refine w_gf (pc' := 41) (v := .ref 159) (ykc_64 (e := (5, .getfield 15, 0)) rfl) rfl (zsg hS zs_157_1) rfl ?_
  refine w_load (pc' := 42) (v := .int x) (m := 1) (ykc_64 (e := (2, .iload_n kF1, 0)) rfl) rfl rfl ?_
  refine w_alu (pc' := 43) (st' := [.int (Int32.ofInt 3), .int x, .ref 159]) (ykc_64 (e := (0, .iconst 3, 0)) rfl) rfl rfl ?_
  have e1571 : x * (Int32.ofInt 3) = zn (3 * i) := zn_of ((zmulN (a := i) (b := 3) (by omega) (by decide) (by omega) (by decide)).trans (by omega))
  have te1571 := znt (k := 3 * i) (by omega)
  refine w_alu (pc' := 44) (st' := [.int (zn (3 * i)), .ref 159]) (ykc_64 (e := (0, .imul, 0)) rfl) (by rw [← e1571]; rfl) rfl ?_
  refine w_load (pc' := 45) (v := .int z) (m := 1) (ykc_64 (e := (2, .iload_n kF2, 0)) rfl) rfl rfl ?_
  have e1572 : (zn (3 * i)) + z = zn (3 * i + j) := zn_of (by have h8 := ti_add (x := (zn (3 * i))) (y := z) (by omega) (by omega); omega)
  have te1572 := znt (k := 3 * i + j) (by omega)
  refine w_alu (pc' := 46) (st' := [.int (zn (3 * i + j)), .ref 159]) (ykc_64 (e := (0, .iadd, 0)) rfl) (by rw [← e1572]; rfl) rfl ?_
  refine w_ialk (pc' := 47) (k := 3 * i + j) (ykc_64 (e := (5, .iaload, 0)) rfl) hy (by omega) rfl ?_
  refine w_br (pc' := 51) (st' := [.int y]) (ykc_64 (e := (4, .goto 4, 51)) rfl) rfl ?_
  refine w_ret (v := (some (.int y))) (ykc_64 (e := (7, .ireturn, 0)) rfl) (zr_v rfl) ?_
  rw [hQ]
  exact ⟨rfl, rfl⟩
end
section
/-! the reference reads an act, by W; printed by wip/z/z1m_acts.py -/
/-- the acts the reference holds: sign, one, two, three -/
def zEd (ph : pm_H) (t : Nat → Nat) (k : Nat) : Prop := ∀ i, i < k → zc ph 185 i = some (.int (zn (zdk (t (zDp t i))))) ∧ zc ph 186 i = some (.int (zn (t (zDp t i + 1) - 48))) ∧ (2 ≤ zdw (t (zDp t i)) → zc ph 187 i = some (.int (zn (t (zDp t i + 2) - 48)))) ∧ (3 ≤ zdw (t (zDp t i)) → zc ph 188 i = some (.int (zn (t (zDp t i + 3) - 48))))
theorem zEd_F {A : List Nat} {L : List (Nat × Nat)} {p q : pm_H} {t : Nat → Nat} {k : Nat} (f : zFr A L p q) (h1 : 185 ∉ A ∧ 186 ∉ A ∧ 187 ∉ A ∧ 188 ∉ A) (h2 : ∀ i, (185, i) ∉ L ∧ (186, i) ∉ L ∧ (187, i) ∉ L ∧ (188, i) ∉ L) (g : zEd p t k) : zEd q t k := fun i hi => ⟨(f.1 _ _ h1.1 (h2 i).1).trans (g i hi).1, (f.1 _ _ h1.2.1 (h2 i).2.1).trans (g i hi).2.1, fun h => (f.1 _ _ h1.2.2.1 (h2 i).2.2.1).trans ((g i hi).2.2.1 h), fun h => (f.1 _ _ h1.2.2.2 (h2 i).2.2.2).trans ((g i hi).2.2.2 h)⟩
/-- one act read: whole, or the fault -/
def zRA (b ln : Nat) (t : Nat → Nat) (a k : Nat) (ph : pm_H) (v0 : Option Value) (q : pm_H) : Prop := zFr [185, 186, 187, 188] [(170, 15), (170, 34)] ph q ∧ zc q 170 34 = some (.int (zn (k + 1))) ∧ (∀ i, i ≠ k → zc q 185 i = zc ph 185 i ∧ zc q 186 i = zc ph 186 i ∧ zc q 187 i = zc ph 187 i ∧ zc q 188 i = zc ph 188 i) ∧ ((v0 = some (.int (zI true)) ∧ 0 < zdw (t a) ∧ a + zdw (t a) < b ∧ (∀ j, j < zdw (t a) → zdi (t (a + 1 + j)) = true) ∧ zTm q (a + 1 + zdw (t a)) b ln t ∧ zc q 185 k = some (.int (zn (zdk (t a)))) ∧ zc q 186 k = some (.int (zn (t (a + 1) - 48))) ∧ (2 ≤ zdw (t a) → zc q 187 k = some (.int (zn (t (a + 2) - 48)))) ∧ (3 ≤ zdw (t a) → zc q 188 k = some (.int (zn (t (a + 3) - 48))))) ∨ (v0 = some (.int (zI false)) ∧ ∃ a2, zDb b t a a2 ∧ zTm q a2 b ln t))
theorem zm_readsAct {ph : pm_H} {a b ln k : Nat} {t : Nat → Nat} (hS : zSh ph) (hT : zTm ph a b ln t) (hk : zc ph 170 34 = some (.int (zn k))) (hk60 : k < 60) (hab : a < b) : zM 253 [.ref 170] ph (zRA b ln t a k ph) := by
  obtain ⟨Q, hQ⟩ : ∃ Q : Option Value → pm_H → Prop, Q = (zRA b ln t a k ph) := ⟨_, rfl⟩
  rw [← hQ]
  refine zM_mk fun n D => ?_
  show zW n D 253 Q 0 [some (.ref 170), none] [] ph
  have c_0 : (Int32.ofInt 0).toInt = 0 := by decide
  have c_1 : (Int32.ofInt 1).toInt = 1 := by decide
  have c_2 : (Int32.ofInt 4).toInt = 4 := by decide
  have tk := znt (k := k) (by omega)
  have tm1 : (Int32.ofInt (-1)).toInt = -1 := by decide
  refine w_load (pc' := 1) (v := .ref 170) (m := 1) (ykc_253 (e := (2, .aload_n kF0, 0)) rfl) rfl rfl ?_
  refine w_gf (pc' := 4) (v := .int (zn k)) (ykc_253 (e := (5, .getfield 392, 0)) rfl) rfl hk rfl ?_
  refine w_store (pc' := 5) (L' := [some (.ref 170), some (.int (zn k))]) (st' := []) (m := 1) (ykc_253 (e := (3, .istore_n kF1, 0)) rfl) rfl rfl ?_
  refine w_load (pc' := 6) (v := .ref 170) (m := 1) (ykc_253 (e := (2, .aload_n kF0, 0)) rfl) rfl rfl ?_
  refine w_gf (pc' := 9) (v := .ref 185) (ykc_253 (e := (5, .getfield 74, 0)) rfl) rfl (zsg hS zs_170_30) rfl ?_
  refine w_load (pc' := 10) (v := .int (zn k)) (m := 1) (ykc_253 (e := (2, .iload_n kF1, 0)) rfl) rfl rfl ?_
  refine w_load (pc' := 11) (v := .ref 170) (m := 1) (ykc_253 (e := (2, .aload_n kF0, 0)) rfl) rfl rfl ?_
  refine w_push (pc' := 14) (v := .ref 1048632) (m := 3) (ykc_253 (e := (1, .ldc_w 395, 0)) rfl) rfl rfl ?_
  refine w_cv (as := [.ref 170, .ref 1048632]) (r := [.int (zn k), .ref 185]) (ykc_253 (e := (6, .invokevirtual 184, 0)) rfl) rfl rfl rfl rfl (zm_takesOf hS hT zstr_day) (fun v1517 ph1518 hv => ?_)
  rcases hv with ⟨f1, ⟨k9, hk9, ha9, hc9, rfl, hTa⟩ | ⟨hn9, rfl, hTa⟩⟩
  · have tk9 := znt (k := k9) (by omega)
    have e5 : zdk (t a) = k9 := by rw [hc9]; exact (zdw_k k9 hk9).2
    show zW n D 253 Q 17 [some (.ref 170), some (.int (zn k))] [.int (zn k9), .int (zn k), .ref 185] ph1518
    refine w_ias (pc' := 18) (k := k) (ykc_253 (e := (5, .iastore, 0)) rfl) (by omega) rfl (fun ph1520 u1519 => ?_)
    refine w_load (pc' := 19) (v := .ref 170) (m := 1) (ykc_253 (e := (2, .aload_n kF0, 0)) rfl) rfl rfl ?_
    refine w_alu (pc' := 20) (st' := [.ref 170, .ref 170]) (ykc_253 (e := (0, .dup, 0)) rfl) rfl rfl ?_
    refine w_gf (pc' := 23) (v := .int (zn k)) (ykc_253 (e := (5, .getfield 392, 0)) rfl) rfl ((u1519.2.1 170 34 (fun q => absurd q.1 (by decide))).trans ((f1.1 170 34 (by decide) (by decide)).trans hk)) rfl ?_
    refine w_alu (pc' := 24) (st' := [.int (Int32.ofInt 1), .int (zn k), .ref 170]) (ykc_253 (e := (0, .iconst 1, 0)) rfl) rfl rfl ?_
    have e1521 : (zn k) + (Int32.ofInt 1) = zn (k + 1) := (zaddN (a := k) (b := 1) (znt (by omega)) c_1 (by omega)) 
    have te1521 := znt (k := k + 1) (by omega)
    refine w_alu (pc' := 25) (st' := [.int (zn (k + 1)), .ref 170]) (ykc_253 (e := (0, .iadd, 0)) rfl) (by rw [← e1521]; rfl) rfl ?_
    refine w_pf (pc' := 28) (ykc_253 (e := (5, .putfield 392, 0)) rfl) rfl rfl (fun ph1523 u1522 => ?_)
    refine w_load (pc' := 29) (v := .ref 170) (m := 1) (ykc_253 (e := (2, .aload_n kF0, 0)) rfl) rfl rfl ?_
    refine w_gf (pc' := 32) (v := .ref 185) (ykc_253 (e := (5, .getfield 74, 0)) rfl) rfl ((u1522.2.1 170 30 (fun q => absurd q.2 (by decide))).trans ((u1519.2.1 170 30 (fun q => absurd q.1 (by decide))).trans ((f1.1 170 30 (by decide) (by decide)).trans (zsg hS zs_170_30)))) rfl ?_
    refine w_load (pc' := 33) (v := .int (zn k)) (m := 1) (ykc_253 (e := (2, .iload_n kF1, 0)) rfl) rfl rfl ?_
    refine w_ialk (pc' := 34) (k := k) (ykc_253 (e := (5, .iaload, 0)) rfl) ((u1522.2.1 185 k (fun q => absurd q.1 (by decide))).trans u1519.1) (by omega) rfl ?_
    refine w_zge (ykc_253 (e := (4, .ifCond .ge 5, 39)) rfl) rfl (fun b1524 => ?_) (fun q => by exfalso; omega)
    refine w_load (pc' := 40) (v := .ref 170) (m := 1) (ykc_253 (e := (2, .aload_n kF0, 0)) rfl) rfl rfl ?_
    refine w_gf (pc' := 43) (v := .ref 186) (ykc_253 (e := (5, .getfield 77, 0)) rfl) rfl ((u1522.2.1 170 31 (fun q => absurd q.2 (by decide))).trans ((u1519.2.1 170 31 (fun q => absurd q.1 (by decide))).trans ((f1.1 170 31 (by decide) (by decide)).trans (zsg hS zs_170_31)))) rfl ?_
    refine w_load (pc' := 44) (v := .int (zn k)) (m := 1) (ykc_253 (e := (2, .iload_n kF1, 0)) rfl) rfl rfl ?_
    refine w_load (pc' := 45) (v := .ref 170) (m := 1) (ykc_253 (e := (2, .aload_n kF0, 0)) rfl) rfl rfl ?_
    refine w_alu (pc' := 46) (st' := [.int (Int32.ofInt 1), .ref 170, .int (zn k), .ref 186]) (ykc_253 (e := (0, .iconst 1, 0)) rfl) rfl rfl ?_
    have hT0 := (zTm_F (zFr_st u1522 (Or.inr (by simp)) : zFr [] [(170, 34)] _ _) (by simp) (by simp) (by simp) (zTm_F (zFr_st u1519 (Or.inl (by simp)) : zFr [185] [] _ _) (by simp) (by simp) (by simp) hTa))
    have ew : zdw (t a) = (if k9 = 0 then 1 else if k9 = 4 then 3 else 2) := by rw [hc9]; exact (zdw_k k9 hk9).1
    have ew2 : (k9 = 0 ∧ zdw (t a) = 1) ∨ (0 < k9 ∧ k9 < 4 ∧ zdw (t a) = 2) ∨ (k9 = 4 ∧ zdw (t a) = 3) := by
      rw [ew]
      (repeat' split) <;> omega
    refine w_cv (as := [.ref 170, .int (Int32.ofInt 1)]) (r := [.int (zn k), .ref 186]) (ykc_253 (e := (6, .invokevirtual 224, 0)) rfl) rfl rfl rfl rfl (zm_num1 (zSh_F (show zFr [185, 186, 187, 188] [(170, 15), (170, 34)] ph ph1523 from (zFr_trans (zFr_trans (zFr_mono f1 (by simp) (by simp)) (zFr_st u1519 (Or.inl (by simp)))) (zFr_st u1522 (Or.inr (by simp))))) (by decide +kernel) hS) hT0) (fun v1525 ph1526 hv => ?_)
    rcases hv with ⟨f2, ⟨n1, rfl, hT1⟩ | ⟨n1, rfl, hT1⟩⟩
    · have td1 := znt (k := t (a + 1) - 48) (by omega)
      show zW n D 253 Q 49 [some (.ref 170), some (.int (zn k))] [.int (zn (t (a + 1) - 48)), .int (zn k), .ref 186] ph1526
      refine w_ias (pc' := 50) (k := k) (ykc_253 (e := (5, .iastore, 0)) rfl) (by omega) rfl (fun ph1528 u1527 => ?_)
      refine w_load (pc' := 51) (v := .ref 170) (m := 1) (ykc_253 (e := (2, .aload_n kF0, 0)) rfl) rfl rfl ?_
      refine w_gf (pc' := 54) (v := .ref 186) (ykc_253 (e := (5, .getfield 77, 0)) rfl) rfl ((u1527.2.1 170 31 (fun q => absurd q.1 (by decide))).trans ((f2.1 170 31 (by decide) (by decide)).trans ((u1522.2.1 170 31 (fun q => absurd q.2 (by decide))).trans ((u1519.2.1 170 31 (fun q => absurd q.1 (by decide))).trans ((f1.1 170 31 (by decide) (by decide)).trans (zsg hS zs_170_31)))))) rfl ?_
      refine w_load (pc' := 55) (v := .int (zn k)) (m := 1) (ykc_253 (e := (2, .iload_n kF1, 0)) rfl) rfl rfl ?_
      refine w_ialk (pc' := 56) (k := k) (ykc_253 (e := (5, .iaload, 0)) rfl) u1527.1 (by omega) rfl ?_
      refine w_zlt (ykc_253 (e := (4, .ifCond .lt 12, 68)) rfl) rfl (fun q => by exfalso; omega) (fun b1529 => ?_)
      refine w_load (pc' := 60) (v := .ref 170) (m := 1) (ykc_253 (e := (2, .aload_n kF0, 0)) rfl) rfl rfl ?_
      refine w_gf (pc' := 63) (v := .ref 185) (ykc_253 (e := (5, .getfield 74, 0)) rfl) rfl ((u1527.2.1 170 30 (fun q => absurd q.1 (by decide))).trans ((f2.1 170 30 (by decide) (by decide)).trans ((u1522.2.1 170 30 (fun q => absurd q.2 (by decide))).trans ((u1519.2.1 170 30 (fun q => absurd q.1 (by decide))).trans ((f1.1 170 30 (by decide) (by decide)).trans (zsg hS zs_170_30)))))) rfl ?_
      refine w_load (pc' := 64) (v := .int (zn k)) (m := 1) (ykc_253 (e := (2, .iload_n kF1, 0)) rfl) rfl rfl ?_
      refine w_ialk (pc' := 65) (k := k) (ykc_253 (e := (5, .iaload, 0)) rfl) ((u1527.2.1 185 k (fun q => absurd q.1 (by decide))).trans ((f2.1 185 k (by decide) (by simp)).trans ((u1522.2.1 185 k (fun q => absurd q.1 (by decide))).trans u1519.1))) (by omega) rfl ?_
      refine w_zne (ykc_253 (e := (4, .ifCond .ne 18, 83)) rfl) rfl (fun b1530 => ?_) (fun b1530 => ?_)
      · refine w_load (pc' := 84) (v := .ref 170) (m := 1) (ykc_253 (e := (2, .aload_n kF0, 0)) rfl) rfl rfl ?_
        refine w_gf (pc' := 87) (v := .ref 187) (ykc_253 (e := (5, .getfield 80, 0)) rfl) rfl ((u1527.2.1 170 32 (fun q => absurd q.1 (by decide))).trans ((f2.1 170 32 (by decide) (by decide)).trans ((u1522.2.1 170 32 (fun q => absurd q.2 (by decide))).trans ((u1519.2.1 170 32 (fun q => absurd q.1 (by decide))).trans ((f1.1 170 32 (by decide) (by decide)).trans (zsg hS zs_170_32)))))) rfl ?_
        refine w_load (pc' := 88) (v := .int (zn k)) (m := 1) (ykc_253 (e := (2, .iload_n kF1, 0)) rfl) rfl rfl ?_
        refine w_load (pc' := 89) (v := .ref 170) (m := 1) (ykc_253 (e := (2, .aload_n kF0, 0)) rfl) rfl rfl ?_
        refine w_alu (pc' := 90) (st' := [.int (Int32.ofInt 1), .ref 170, .int (zn k), .ref 187]) (ykc_253 (e := (0, .iconst 1, 0)) rfl) rfl rfl ?_
        have hT10 := (zTm_F (zFr_st u1527 (Or.inl (by simp)) : zFr [186] [] _ _) (by simp) (by simp) (by simp) hT1)
        refine w_cv (as := [.ref 170, .int (Int32.ofInt 1)]) (r := [.int (zn k), .ref 187]) (ykc_253 (e := (6, .invokevirtual 224, 0)) rfl) rfl rfl rfl rfl (zm_num1 (zSh_F (show zFr [185, 186, 187, 188] [(170, 15), (170, 34)] ph ph1528 from (zFr_trans (zFr_trans (zFr_trans (zFr_trans (zFr_mono f1 (by simp) (by simp)) (zFr_st u1519 (Or.inl (by simp)))) (zFr_st u1522 (Or.inr (by simp)))) (zFr_mono f2 (by simp) (by simp))) (zFr_st u1527 (Or.inl (by simp))))) (by decide +kernel) hS) hT10) (fun v1531 ph1532 hv => ?_)
        rcases hv with ⟨f3, ⟨n2, rfl, hT2⟩ | ⟨n2, rfl, hT2⟩⟩
        · have td2 := znt (k := t (a + 1 + 1) - 48) (by omega)
          show zW n D 253 Q 93 [some (.ref 170), some (.int (zn k))] [.int (zn (t (a + 1 + 1) - 48)), .int (zn k), .ref 187] ph1532
          refine w_ias (pc' := 94) (k := k) (ykc_253 (e := (5, .iastore, 0)) rfl) (by omega) rfl (fun ph1534 u1533 => ?_)
          refine w_load (pc' := 95) (v := .ref 170) (m := 1) (ykc_253 (e := (2, .aload_n kF0, 0)) rfl) rfl rfl ?_
          refine w_gf (pc' := 98) (v := .ref 187) (ykc_253 (e := (5, .getfield 80, 0)) rfl) rfl ((u1533.2.1 170 32 (fun q => absurd q.1 (by decide))).trans ((f3.1 170 32 (by decide) (by decide)).trans ((u1527.2.1 170 32 (fun q => absurd q.1 (by decide))).trans ((f2.1 170 32 (by decide) (by decide)).trans ((u1522.2.1 170 32 (fun q => absurd q.2 (by decide))).trans ((u1519.2.1 170 32 (fun q => absurd q.1 (by decide))).trans ((f1.1 170 32 (by decide) (by decide)).trans (zsg hS zs_170_32)))))))) rfl ?_
          refine w_load (pc' := 99) (v := .int (zn k)) (m := 1) (ykc_253 (e := (2, .iload_n kF1, 0)) rfl) rfl rfl ?_
          refine w_ialk (pc' := 100) (k := k) (ykc_253 (e := (5, .iaload, 0)) rfl) u1533.1 (by omega) rfl ?_
          refine w_zlt (ykc_253 (e := (4, .ifCond .lt 13, 113)) rfl) rfl (fun q => by exfalso; omega) (fun b1535 => ?_)
          refine w_load (pc' := 104) (v := .ref 170) (m := 1) (ykc_253 (e := (2, .aload_n kF0, 0)) rfl) rfl rfl ?_
          refine w_gf (pc' := 107) (v := .ref 185) (ykc_253 (e := (5, .getfield 74, 0)) rfl) rfl ((u1533.2.1 170 30 (fun q => absurd q.1 (by decide))).trans ((f3.1 170 30 (by decide) (by decide)).trans ((u1527.2.1 170 30 (fun q => absurd q.1 (by decide))).trans ((f2.1 170 30 (by decide) (by decide)).trans ((u1522.2.1 170 30 (fun q => absurd q.2 (by decide))).trans ((u1519.2.1 170 30 (fun q => absurd q.1 (by decide))).trans ((f1.1 170 30 (by decide) (by decide)).trans (zsg hS zs_170_30)))))))) rfl ?_
          refine w_load (pc' := 108) (v := .int (zn k)) (m := 1) (ykc_253 (e := (2, .iload_n kF1, 0)) rfl) rfl rfl ?_
          refine w_ialk (pc' := 109) (k := k) (ykc_253 (e := (5, .iaload, 0)) rfl) ((u1533.2.1 185 k (fun q => absurd q.1 (by decide))).trans ((f3.1 185 k (by decide) (by simp)).trans ((u1527.2.1 185 k (fun q => absurd q.1 (by decide))).trans ((f2.1 185 k (by decide) (by simp)).trans ((u1522.2.1 185 k (fun q => absurd q.1 (by decide))).trans u1519.1))))) (by omega) rfl ?_
          refine w_alu (pc' := 110) (st' := [.int (Int32.ofInt 4), .int (zn k9)]) (ykc_253 (e := (0, .iconst 4, 0)) rfl) rfl rfl ?_
          refine w_ige (ykc_253 (e := (4, .if_icmp .ge 18, 128)) rfl) rfl (fun b1536 => ?_) (fun b1536 => ?_)
          · refine w_load (pc' := 129) (v := .ref 170) (m := 1) (ykc_253 (e := (2, .aload_n kF0, 0)) rfl) rfl rfl ?_
            refine w_gf (pc' := 132) (v := .ref 188) (ykc_253 (e := (5, .getfield 83, 0)) rfl) rfl ((u1533.2.1 170 33 (fun q => absurd q.1 (by decide))).trans ((f3.1 170 33 (by decide) (by decide)).trans ((u1527.2.1 170 33 (fun q => absurd q.1 (by decide))).trans ((f2.1 170 33 (by decide) (by decide)).trans ((u1522.2.1 170 33 (fun q => absurd q.2 (by decide))).trans ((u1519.2.1 170 33 (fun q => absurd q.1 (by decide))).trans ((f1.1 170 33 (by decide) (by decide)).trans (zsg hS zs_170_33)))))))) rfl ?_
            refine w_load (pc' := 133) (v := .int (zn k)) (m := 1) (ykc_253 (e := (2, .iload_n kF1, 0)) rfl) rfl rfl ?_
            refine w_load (pc' := 134) (v := .ref 170) (m := 1) (ykc_253 (e := (2, .aload_n kF0, 0)) rfl) rfl rfl ?_
            refine w_alu (pc' := 135) (st' := [.int (Int32.ofInt 1), .ref 170, .int (zn k), .ref 188]) (ykc_253 (e := (0, .iconst 1, 0)) rfl) rfl rfl ?_
            have hT20 := (zTm_F (zFr_st u1533 (Or.inl (by simp)) : zFr [187] [] _ _) (by simp) (by simp) (by simp) hT2)
            refine w_cv (as := [.ref 170, .int (Int32.ofInt 1)]) (r := [.int (zn k), .ref 188]) (ykc_253 (e := (6, .invokevirtual 224, 0)) rfl) rfl rfl rfl rfl (zm_num1 (zSh_F (show zFr [185, 186, 187, 188] [(170, 15), (170, 34)] ph ph1534 from (zFr_trans (zFr_trans (zFr_trans (zFr_trans (zFr_trans (zFr_trans (zFr_mono f1 (by simp) (by simp)) (zFr_st u1519 (Or.inl (by simp)))) (zFr_st u1522 (Or.inr (by simp)))) (zFr_mono f2 (by simp) (by simp))) (zFr_st u1527 (Or.inl (by simp)))) (zFr_mono f3 (by simp) (by simp))) (zFr_st u1533 (Or.inl (by simp))))) (by decide +kernel) hS) hT20) (fun v1537 ph1538 hv => ?_)
            rcases hv with ⟨f4, ⟨n3, rfl, hT3⟩ | ⟨n3, rfl, hT3⟩⟩
            · have td3 := znt (k := t (a + 1 + 1 + 1) - 48) (by omega)
              show zW n D 253 Q 138 [some (.ref 170), some (.int (zn k))] [.int (zn (t (a + 1 + 1 + 1) - 48)), .int (zn k), .ref 188] ph1538
              refine w_ias (pc' := 139) (k := k) (ykc_253 (e := (5, .iastore, 0)) rfl) (by omega) rfl (fun ph1540 u1539 => ?_)
              refine w_load (pc' := 140) (v := .ref 170) (m := 1) (ykc_253 (e := (2, .aload_n kF0, 0)) rfl) rfl rfl ?_
              refine w_gf (pc' := 143) (v := .ref 188) (ykc_253 (e := (5, .getfield 83, 0)) rfl) rfl ((u1539.2.1 170 33 (fun q => absurd q.1 (by decide))).trans ((f4.1 170 33 (by decide) (by decide)).trans ((u1533.2.1 170 33 (fun q => absurd q.1 (by decide))).trans ((f3.1 170 33 (by decide) (by decide)).trans ((u1527.2.1 170 33 (fun q => absurd q.1 (by decide))).trans ((f2.1 170 33 (by decide) (by decide)).trans ((u1522.2.1 170 33 (fun q => absurd q.2 (by decide))).trans ((u1519.2.1 170 33 (fun q => absurd q.1 (by decide))).trans ((f1.1 170 33 (by decide) (by decide)).trans (zsg hS zs_170_33)))))))))) rfl ?_
              refine w_load (pc' := 144) (v := .int (zn k)) (m := 1) (ykc_253 (e := (2, .iload_n kF1, 0)) rfl) rfl rfl ?_
              refine w_ialk (pc' := 145) (k := k) (ykc_253 (e := (5, .iaload, 0)) rfl) u1539.1 (by omega) rfl ?_
              refine w_zlt (ykc_253 (e := (4, .ifCond .lt 7, 152)) rfl) rfl (fun q => by exfalso; omega) (fun b1541 => ?_)
              refine w_alu (pc' := 149) (st' := [.int (Int32.ofInt 1)]) (ykc_253 (e := (0, .iconst 1, 0)) rfl) rfl rfl ?_
              refine w_br (pc' := 153) (st' := [.int (Int32.ofInt 1)]) (ykc_253 (e := (4, .goto 4, 153)) rfl) rfl ?_
              refine w_ret (v := (some (.int (Int32.ofInt 1)))) (ykc_253 (e := (7, .ireturn, 0)) rfl) zr_z ?_
              rw [hQ, zi1]
              have ew3 : zdw (t a) = 3 := by omega
              have hT8 := (zTm_F (zFr_st u1539 (Or.inl (by simp)) : zFr [188] [] _ _) (by simp) (by simp) (by simp) hT3)
              rw [show a + 1 + 1 + 1 + 1 = a + 1 + zdw (t a) by omega] at hT8
              refine ⟨(show zFr [185, 186, 187, 188] [(170, 15), (170, 34)] ph ph1540 from (zFr_trans (zFr_trans (zFr_trans (zFr_trans (zFr_trans (zFr_trans (zFr_trans (zFr_trans (zFr_mono f1 (by simp) (by simp)) (zFr_st u1519 (Or.inl (by simp)))) (zFr_st u1522 (Or.inr (by simp)))) (zFr_mono f2 (by simp) (by simp))) (zFr_st u1527 (Or.inl (by simp)))) (zFr_mono f3 (by simp) (by simp))) (zFr_st u1533 (Or.inl (by simp)))) (zFr_mono f4 (by simp) (by simp))) (zFr_st u1539 (Or.inl (by simp))))), ((u1539.2.1 170 34 (fun q => absurd q.1 (by decide))).trans ((f4.1 170 34 (by decide) (by decide)).trans ((u1533.2.1 170 34 (fun q => absurd q.1 (by decide))).trans ((f3.1 170 34 (by decide) (by decide)).trans ((u1527.2.1 170 34 (fun q => absurd q.1 (by decide))).trans ((f2.1 170 34 (by decide) (by decide)).trans u1522.1)))))), (fun i hi => ⟨((u1539.2.1 185 i (fun q => absurd q.1 (by decide))).trans ((f4.1 185 i (by simp) (by simp)).trans ((u1533.2.1 185 i (fun q => absurd q.1 (by decide))).trans ((f3.1 185 i (by simp) (by simp)).trans ((u1527.2.1 185 i (fun q => absurd q.1 (by decide))).trans ((f2.1 185 i (by simp) (by simp)).trans ((u1522.2.1 185 i (fun q => absurd q.1 (by decide))).trans ((u1519.2.1 185 i (fun q => hi q.2)).trans (f1.1 185 i (by simp) (by simp)))))))))), ((u1539.2.1 186 i (fun q => absurd q.1 (by decide))).trans ((f4.1 186 i (by simp) (by simp)).trans ((u1533.2.1 186 i (fun q => absurd q.1 (by decide))).trans ((f3.1 186 i (by simp) (by simp)).trans ((u1527.2.1 186 i (fun q => hi q.2)).trans ((f2.1 186 i (by simp) (by simp)).trans ((u1522.2.1 186 i (fun q => absurd q.1 (by decide))).trans ((u1519.2.1 186 i (fun q => absurd q.1 (by decide))).trans (f1.1 186 i (by simp) (by simp)))))))))), ((u1539.2.1 187 i (fun q => absurd q.1 (by decide))).trans ((f4.1 187 i (by simp) (by simp)).trans ((u1533.2.1 187 i (fun q => hi q.2)).trans ((f3.1 187 i (by simp) (by simp)).trans ((u1527.2.1 187 i (fun q => absurd q.1 (by decide))).trans ((f2.1 187 i (by simp) (by simp)).trans ((u1522.2.1 187 i (fun q => absurd q.1 (by decide))).trans ((u1519.2.1 187 i (fun q => absurd q.1 (by decide))).trans (f1.1 187 i (by simp) (by simp)))))))))), ((u1539.2.1 188 i (fun q => hi q.2)).trans ((f4.1 188 i (by simp) (by simp)).trans ((u1533.2.1 188 i (fun q => absurd q.1 (by decide))).trans ((f3.1 188 i (by simp) (by simp)).trans ((u1527.2.1 188 i (fun q => absurd q.1 (by decide))).trans ((f2.1 188 i (by simp) (by simp)).trans ((u1522.2.1 188 i (fun q => absurd q.1 (by decide))).trans ((u1519.2.1 188 i (fun q => absurd q.1 (by decide))).trans (f1.1 188 i (by simp) (by simp))))))))))⟩), Or.inl ⟨rfl, by omega, by omega, ?_, hT8, by rw [e5]; exact ((u1539.2.1 185 k (fun q => absurd q.1 (by decide))).trans ((f4.1 185 k (by decide) (by simp)).trans ((u1533.2.1 185 k (fun q => absurd q.1 (by decide))).trans ((f3.1 185 k (by decide) (by simp)).trans ((u1527.2.1 185 k (fun q => absurd q.1 (by decide))).trans ((f2.1 185 k (by decide) (by simp)).trans ((u1522.2.1 185 k (fun q => absurd q.1 (by decide))).trans u1519.1))))))), ((u1539.2.1 186 k (fun q => absurd q.1 (by decide))).trans ((f4.1 186 k (by decide) (by simp)).trans ((u1533.2.1 186 k (fun q => absurd q.1 (by decide))).trans ((f3.1 186 k (by decide) (by simp)).trans u1527.1)))), (fun _ => ((u1539.2.1 187 k (fun q => absurd q.1 (by decide))).trans ((f4.1 187 k (by decide) (by simp)).trans u1533.1))), (fun _ => u1539.1)⟩⟩
              rw [ew3]
              exact (fun j hj => by
                rcases (show j = 0 ∨ j = 1 ∨ j = 2 by omega) with e | e | e <;> subst e
                · exact zdi_t n1.2
                · exact zdi_t n2.2
                · exact zdi_t n3.2)
            · show zW n D 253 Q 138 [some (.ref 170), some (.int (zn k))] [.int (Int32.ofInt (-1)), .int (zn k), .ref 188] ph1538
              refine w_ias (pc' := 139) (k := k) (ykc_253 (e := (5, .iastore, 0)) rfl) (by omega) rfl (fun ph1543 u1542 => ?_)
              refine w_load (pc' := 140) (v := .ref 170) (m := 1) (ykc_253 (e := (2, .aload_n kF0, 0)) rfl) rfl rfl ?_
              refine w_gf (pc' := 143) (v := .ref 188) (ykc_253 (e := (5, .getfield 83, 0)) rfl) rfl ((u1542.2.1 170 33 (fun q => absurd q.1 (by decide))).trans ((f4.1 170 33 (by decide) (by decide)).trans ((u1533.2.1 170 33 (fun q => absurd q.1 (by decide))).trans ((f3.1 170 33 (by decide) (by decide)).trans ((u1527.2.1 170 33 (fun q => absurd q.1 (by decide))).trans ((f2.1 170 33 (by decide) (by decide)).trans ((u1522.2.1 170 33 (fun q => absurd q.2 (by decide))).trans ((u1519.2.1 170 33 (fun q => absurd q.1 (by decide))).trans ((f1.1 170 33 (by decide) (by decide)).trans (zsg hS zs_170_33)))))))))) rfl ?_
              refine w_load (pc' := 144) (v := .int (zn k)) (m := 1) (ykc_253 (e := (2, .iload_n kF1, 0)) rfl) rfl rfl ?_
              refine w_ialk (pc' := 145) (k := k) (ykc_253 (e := (5, .iaload, 0)) rfl) u1542.1 (by omega) rfl ?_
              refine w_zlt (ykc_253 (e := (4, .ifCond .lt 7, 152)) rfl) rfl (fun b1544 => ?_) (fun q => by exfalso; omega)
              refine w_alu (pc' := 153) (st' := [.int (Int32.ofInt 0)]) (ykc_253 (e := (0, .iconst 0, 0)) rfl) rfl rfl ?_
              refine w_ret (v := (some (.int (Int32.ofInt 0)))) (ykc_253 (e := (7, .ireturn, 0)) rfl) zr_z ?_
              rw [hQ, zi0]
              exact ⟨(show zFr [185, 186, 187, 188] [(170, 15), (170, 34)] ph ph1543 from (zFr_trans (zFr_trans (zFr_trans (zFr_trans (zFr_trans (zFr_trans (zFr_trans (zFr_trans (zFr_mono f1 (by simp) (by simp)) (zFr_st u1519 (Or.inl (by simp)))) (zFr_st u1522 (Or.inr (by simp)))) (zFr_mono f2 (by simp) (by simp))) (zFr_st u1527 (Or.inl (by simp)))) (zFr_mono f3 (by simp) (by simp))) (zFr_st u1533 (Or.inl (by simp)))) (zFr_mono f4 (by simp) (by simp))) (zFr_st u1542 (Or.inl (by simp))))), ((u1542.2.1 170 34 (fun q => absurd q.1 (by decide))).trans ((f4.1 170 34 (by decide) (by decide)).trans ((u1533.2.1 170 34 (fun q => absurd q.1 (by decide))).trans ((f3.1 170 34 (by decide) (by decide)).trans ((u1527.2.1 170 34 (fun q => absurd q.1 (by decide))).trans ((f2.1 170 34 (by decide) (by decide)).trans u1522.1)))))), (fun i hi => ⟨((u1542.2.1 185 i (fun q => absurd q.1 (by decide))).trans ((f4.1 185 i (by simp) (by simp)).trans ((u1533.2.1 185 i (fun q => absurd q.1 (by decide))).trans ((f3.1 185 i (by simp) (by simp)).trans ((u1527.2.1 185 i (fun q => absurd q.1 (by decide))).trans ((f2.1 185 i (by simp) (by simp)).trans ((u1522.2.1 185 i (fun q => absurd q.1 (by decide))).trans ((u1519.2.1 185 i (fun q => hi q.2)).trans (f1.1 185 i (by simp) (by simp)))))))))), ((u1542.2.1 186 i (fun q => absurd q.1 (by decide))).trans ((f4.1 186 i (by simp) (by simp)).trans ((u1533.2.1 186 i (fun q => absurd q.1 (by decide))).trans ((f3.1 186 i (by simp) (by simp)).trans ((u1527.2.1 186 i (fun q => hi q.2)).trans ((f2.1 186 i (by simp) (by simp)).trans ((u1522.2.1 186 i (fun q => absurd q.1 (by decide))).trans ((u1519.2.1 186 i (fun q => absurd q.1 (by decide))).trans (f1.1 186 i (by simp) (by simp)))))))))), ((u1542.2.1 187 i (fun q => absurd q.1 (by decide))).trans ((f4.1 187 i (by simp) (by simp)).trans ((u1533.2.1 187 i (fun q => hi q.2)).trans ((f3.1 187 i (by simp) (by simp)).trans ((u1527.2.1 187 i (fun q => absurd q.1 (by decide))).trans ((f2.1 187 i (by simp) (by simp)).trans ((u1522.2.1 187 i (fun q => absurd q.1 (by decide))).trans ((u1519.2.1 187 i (fun q => absurd q.1 (by decide))).trans (f1.1 187 i (by simp) (by simp)))))))))), ((u1542.2.1 188 i (fun q => hi q.2)).trans ((f4.1 188 i (by simp) (by simp)).trans ((u1533.2.1 188 i (fun q => absurd q.1 (by decide))).trans ((f3.1 188 i (by simp) (by simp)).trans ((u1527.2.1 188 i (fun q => absurd q.1 (by decide))).trans ((f2.1 188 i (by simp) (by simp)).trans ((u1522.2.1 188 i (fun q => absurd q.1 (by decide))).trans ((u1519.2.1 188 i (fun q => absurd q.1 (by decide))).trans (f1.1 188 i (by simp) (by simp))))))))))⟩), Or.inr ⟨rfl, a + 1 + 1 + 1, ⟨hab, Or.inr ⟨2, by omega, rfl, by omega, fun j hj => by
                rcases (show j = 0 ∨ j = 1 by omega) with e | e <;> subst e
                · exact zdi_t n1.2
                · exact zdi_t n2.2, fun h => zdi_f (fun q => n3 ⟨h, q⟩)⟩⟩, (zTm_F (zFr_st u1542 (Or.inl (by simp)) : zFr [188] [] _ _) (by simp) (by simp) (by simp) hT3)⟩⟩
            
          · refine w_load (pc' := 114) (v := .ref 170) (m := 1) (ykc_253 (e := (2, .aload_n kF0, 0)) rfl) rfl rfl ?_
            refine w_gf (pc' := 117) (v := .ref 187) (ykc_253 (e := (5, .getfield 80, 0)) rfl) rfl ((u1533.2.1 170 32 (fun q => absurd q.1 (by decide))).trans ((f3.1 170 32 (by decide) (by decide)).trans ((u1527.2.1 170 32 (fun q => absurd q.1 (by decide))).trans ((f2.1 170 32 (by decide) (by decide)).trans ((u1522.2.1 170 32 (fun q => absurd q.2 (by decide))).trans ((u1519.2.1 170 32 (fun q => absurd q.1 (by decide))).trans ((f1.1 170 32 (by decide) (by decide)).trans (zsg hS zs_170_32)))))))) rfl ?_
            refine w_load (pc' := 118) (v := .int (zn k)) (m := 1) (ykc_253 (e := (2, .iload_n kF1, 0)) rfl) rfl rfl ?_
            refine w_ialk (pc' := 119) (k := k) (ykc_253 (e := (5, .iaload, 0)) rfl) u1533.1 (by omega) rfl ?_
            refine w_zlt (ykc_253 (e := (4, .ifCond .lt 7, 126)) rfl) rfl (fun q => by exfalso; omega) (fun b1545 => ?_)
            refine w_alu (pc' := 123) (st' := [.int (Int32.ofInt 1)]) (ykc_253 (e := (0, .iconst 1, 0)) rfl) rfl rfl ?_
            refine w_br (pc' := 127) (st' := [.int (Int32.ofInt 1)]) (ykc_253 (e := (4, .goto 4, 127)) rfl) rfl ?_
            refine w_ret (v := (some (.int (Int32.ofInt 1)))) (ykc_253 (e := (7, .ireturn, 0)) rfl) zr_z ?_
            rw [hQ, zi1]
            have ew3 : zdw (t a) = 2 := by omega
            have hT8 := (zTm_F (zFr_st u1533 (Or.inl (by simp)) : zFr [187] [] _ _) (by simp) (by simp) (by simp) hT2)
            rw [show a + 1 + 1 + 1 = a + 1 + zdw (t a) by omega] at hT8
            refine ⟨(show zFr [185, 186, 187, 188] [(170, 15), (170, 34)] ph ph1534 from (zFr_trans (zFr_trans (zFr_trans (zFr_trans (zFr_trans (zFr_trans (zFr_mono f1 (by simp) (by simp)) (zFr_st u1519 (Or.inl (by simp)))) (zFr_st u1522 (Or.inr (by simp)))) (zFr_mono f2 (by simp) (by simp))) (zFr_st u1527 (Or.inl (by simp)))) (zFr_mono f3 (by simp) (by simp))) (zFr_st u1533 (Or.inl (by simp))))), ((u1533.2.1 170 34 (fun q => absurd q.1 (by decide))).trans ((f3.1 170 34 (by decide) (by decide)).trans ((u1527.2.1 170 34 (fun q => absurd q.1 (by decide))).trans ((f2.1 170 34 (by decide) (by decide)).trans u1522.1)))), (fun i hi => ⟨((u1533.2.1 185 i (fun q => absurd q.1 (by decide))).trans ((f3.1 185 i (by simp) (by simp)).trans ((u1527.2.1 185 i (fun q => absurd q.1 (by decide))).trans ((f2.1 185 i (by simp) (by simp)).trans ((u1522.2.1 185 i (fun q => absurd q.1 (by decide))).trans ((u1519.2.1 185 i (fun q => hi q.2)).trans (f1.1 185 i (by simp) (by simp)))))))), ((u1533.2.1 186 i (fun q => absurd q.1 (by decide))).trans ((f3.1 186 i (by simp) (by simp)).trans ((u1527.2.1 186 i (fun q => hi q.2)).trans ((f2.1 186 i (by simp) (by simp)).trans ((u1522.2.1 186 i (fun q => absurd q.1 (by decide))).trans ((u1519.2.1 186 i (fun q => absurd q.1 (by decide))).trans (f1.1 186 i (by simp) (by simp)))))))), ((u1533.2.1 187 i (fun q => hi q.2)).trans ((f3.1 187 i (by simp) (by simp)).trans ((u1527.2.1 187 i (fun q => absurd q.1 (by decide))).trans ((f2.1 187 i (by simp) (by simp)).trans ((u1522.2.1 187 i (fun q => absurd q.1 (by decide))).trans ((u1519.2.1 187 i (fun q => absurd q.1 (by decide))).trans (f1.1 187 i (by simp) (by simp)))))))), ((u1533.2.1 188 i (fun q => absurd q.1 (by decide))).trans ((f3.1 188 i (by simp) (by simp)).trans ((u1527.2.1 188 i (fun q => absurd q.1 (by decide))).trans ((f2.1 188 i (by simp) (by simp)).trans ((u1522.2.1 188 i (fun q => absurd q.1 (by decide))).trans ((u1519.2.1 188 i (fun q => absurd q.1 (by decide))).trans (f1.1 188 i (by simp) (by simp))))))))⟩), Or.inl ⟨rfl, by omega, by omega, ?_, hT8, by rw [e5]; exact ((u1533.2.1 185 k (fun q => absurd q.1 (by decide))).trans ((f3.1 185 k (by decide) (by simp)).trans ((u1527.2.1 185 k (fun q => absurd q.1 (by decide))).trans ((f2.1 185 k (by decide) (by simp)).trans ((u1522.2.1 185 k (fun q => absurd q.1 (by decide))).trans u1519.1))))), ((u1533.2.1 186 k (fun q => absurd q.1 (by decide))).trans ((f3.1 186 k (by decide) (by simp)).trans u1527.1)), (fun _ => u1533.1), (fun h => absurd h (by omega))⟩⟩
            rw [ew3]
            exact (fun j hj => by
              rcases (show j = 0 ∨ j = 1 by omega) with e | e <;> subst e
              · exact zdi_t n1.2
              · exact zdi_t n2.2)
        · show zW n D 253 Q 93 [some (.ref 170), some (.int (zn k))] [.int (Int32.ofInt (-1)), .int (zn k), .ref 187] ph1532
          refine w_ias (pc' := 94) (k := k) (ykc_253 (e := (5, .iastore, 0)) rfl) (by omega) rfl (fun ph1547 u1546 => ?_)
          refine w_load (pc' := 95) (v := .ref 170) (m := 1) (ykc_253 (e := (2, .aload_n kF0, 0)) rfl) rfl rfl ?_
          refine w_gf (pc' := 98) (v := .ref 187) (ykc_253 (e := (5, .getfield 80, 0)) rfl) rfl ((u1546.2.1 170 32 (fun q => absurd q.1 (by decide))).trans ((f3.1 170 32 (by decide) (by decide)).trans ((u1527.2.1 170 32 (fun q => absurd q.1 (by decide))).trans ((f2.1 170 32 (by decide) (by decide)).trans ((u1522.2.1 170 32 (fun q => absurd q.2 (by decide))).trans ((u1519.2.1 170 32 (fun q => absurd q.1 (by decide))).trans ((f1.1 170 32 (by decide) (by decide)).trans (zsg hS zs_170_32)))))))) rfl ?_
          refine w_load (pc' := 99) (v := .int (zn k)) (m := 1) (ykc_253 (e := (2, .iload_n kF1, 0)) rfl) rfl rfl ?_
          refine w_ialk (pc' := 100) (k := k) (ykc_253 (e := (5, .iaload, 0)) rfl) u1546.1 (by omega) rfl ?_
          refine w_zlt (ykc_253 (e := (4, .ifCond .lt 13, 113)) rfl) rfl (fun b1548 => ?_) (fun q => by exfalso; omega)
          refine w_load (pc' := 114) (v := .ref 170) (m := 1) (ykc_253 (e := (2, .aload_n kF0, 0)) rfl) rfl rfl ?_
          refine w_gf (pc' := 117) (v := .ref 187) (ykc_253 (e := (5, .getfield 80, 0)) rfl) rfl ((u1546.2.1 170 32 (fun q => absurd q.1 (by decide))).trans ((f3.1 170 32 (by decide) (by decide)).trans ((u1527.2.1 170 32 (fun q => absurd q.1 (by decide))).trans ((f2.1 170 32 (by decide) (by decide)).trans ((u1522.2.1 170 32 (fun q => absurd q.2 (by decide))).trans ((u1519.2.1 170 32 (fun q => absurd q.1 (by decide))).trans ((f1.1 170 32 (by decide) (by decide)).trans (zsg hS zs_170_32)))))))) rfl ?_
          refine w_load (pc' := 118) (v := .int (zn k)) (m := 1) (ykc_253 (e := (2, .iload_n kF1, 0)) rfl) rfl rfl ?_
          refine w_ialk (pc' := 119) (k := k) (ykc_253 (e := (5, .iaload, 0)) rfl) u1546.1 (by omega) rfl ?_
          refine w_zlt (ykc_253 (e := (4, .ifCond .lt 7, 126)) rfl) rfl (fun b1549 => ?_) (fun q => by exfalso; omega)
          refine w_alu (pc' := 127) (st' := [.int (Int32.ofInt 0)]) (ykc_253 (e := (0, .iconst 0, 0)) rfl) rfl rfl ?_
          refine w_ret (v := (some (.int (Int32.ofInt 0)))) (ykc_253 (e := (7, .ireturn, 0)) rfl) zr_z ?_
          rw [hQ, zi0]
          exact ⟨(show zFr [185, 186, 187, 188] [(170, 15), (170, 34)] ph ph1547 from (zFr_trans (zFr_trans (zFr_trans (zFr_trans (zFr_trans (zFr_trans (zFr_mono f1 (by simp) (by simp)) (zFr_st u1519 (Or.inl (by simp)))) (zFr_st u1522 (Or.inr (by simp)))) (zFr_mono f2 (by simp) (by simp))) (zFr_st u1527 (Or.inl (by simp)))) (zFr_mono f3 (by simp) (by simp))) (zFr_st u1546 (Or.inl (by simp))))), ((u1546.2.1 170 34 (fun q => absurd q.1 (by decide))).trans ((f3.1 170 34 (by decide) (by decide)).trans ((u1527.2.1 170 34 (fun q => absurd q.1 (by decide))).trans ((f2.1 170 34 (by decide) (by decide)).trans u1522.1)))), (fun i hi => ⟨((u1546.2.1 185 i (fun q => absurd q.1 (by decide))).trans ((f3.1 185 i (by simp) (by simp)).trans ((u1527.2.1 185 i (fun q => absurd q.1 (by decide))).trans ((f2.1 185 i (by simp) (by simp)).trans ((u1522.2.1 185 i (fun q => absurd q.1 (by decide))).trans ((u1519.2.1 185 i (fun q => hi q.2)).trans (f1.1 185 i (by simp) (by simp)))))))), ((u1546.2.1 186 i (fun q => absurd q.1 (by decide))).trans ((f3.1 186 i (by simp) (by simp)).trans ((u1527.2.1 186 i (fun q => hi q.2)).trans ((f2.1 186 i (by simp) (by simp)).trans ((u1522.2.1 186 i (fun q => absurd q.1 (by decide))).trans ((u1519.2.1 186 i (fun q => absurd q.1 (by decide))).trans (f1.1 186 i (by simp) (by simp)))))))), ((u1546.2.1 187 i (fun q => hi q.2)).trans ((f3.1 187 i (by simp) (by simp)).trans ((u1527.2.1 187 i (fun q => absurd q.1 (by decide))).trans ((f2.1 187 i (by simp) (by simp)).trans ((u1522.2.1 187 i (fun q => absurd q.1 (by decide))).trans ((u1519.2.1 187 i (fun q => absurd q.1 (by decide))).trans (f1.1 187 i (by simp) (by simp)))))))), ((u1546.2.1 188 i (fun q => absurd q.1 (by decide))).trans ((f3.1 188 i (by simp) (by simp)).trans ((u1527.2.1 188 i (fun q => absurd q.1 (by decide))).trans ((f2.1 188 i (by simp) (by simp)).trans ((u1522.2.1 188 i (fun q => absurd q.1 (by decide))).trans ((u1519.2.1 188 i (fun q => absurd q.1 (by decide))).trans (f1.1 188 i (by simp) (by simp))))))))⟩), Or.inr ⟨rfl, a + 1 + 1, ⟨hab, Or.inr ⟨1, by omega, rfl, by omega, fun j hj => by rw [show j = 0 by omega]; exact zdi_t n1.2, fun h => zdi_f (fun q => n2 ⟨h, q⟩)⟩⟩, (zTm_F (zFr_st u1546 (Or.inl (by simp)) : zFr [187] [] _ _) (by simp) (by simp) (by simp) hT2)⟩⟩
        
      · refine w_load (pc' := 69) (v := .ref 170) (m := 1) (ykc_253 (e := (2, .aload_n kF0, 0)) rfl) rfl rfl ?_
        refine w_gf (pc' := 72) (v := .ref 186) (ykc_253 (e := (5, .getfield 77, 0)) rfl) rfl ((u1527.2.1 170 31 (fun q => absurd q.1 (by decide))).trans ((f2.1 170 31 (by decide) (by decide)).trans ((u1522.2.1 170 31 (fun q => absurd q.2 (by decide))).trans ((u1519.2.1 170 31 (fun q => absurd q.1 (by decide))).trans ((f1.1 170 31 (by decide) (by decide)).trans (zsg hS zs_170_31)))))) rfl ?_
        refine w_load (pc' := 73) (v := .int (zn k)) (m := 1) (ykc_253 (e := (2, .iload_n kF1, 0)) rfl) rfl rfl ?_
        refine w_ialk (pc' := 74) (k := k) (ykc_253 (e := (5, .iaload, 0)) rfl) u1527.1 (by omega) rfl ?_
        refine w_zlt (ykc_253 (e := (4, .ifCond .lt 7, 81)) rfl) rfl (fun q => by exfalso; omega) (fun b1550 => ?_)
        refine w_alu (pc' := 78) (st' := [.int (Int32.ofInt 1)]) (ykc_253 (e := (0, .iconst 1, 0)) rfl) rfl rfl ?_
        refine w_br (pc' := 82) (st' := [.int (Int32.ofInt 1)]) (ykc_253 (e := (4, .goto 4, 82)) rfl) rfl ?_
        refine w_ret (v := (some (.int (Int32.ofInt 1)))) (ykc_253 (e := (7, .ireturn, 0)) rfl) zr_z ?_
        rw [hQ, zi1]
        have ew3 : zdw (t a) = 1 := by omega
        have hT8 := (zTm_F (zFr_st u1527 (Or.inl (by simp)) : zFr [186] [] _ _) (by simp) (by simp) (by simp) hT1)
        rw [show a + 1 + 1 = a + 1 + zdw (t a) by omega] at hT8
        refine ⟨(show zFr [185, 186, 187, 188] [(170, 15), (170, 34)] ph ph1528 from (zFr_trans (zFr_trans (zFr_trans (zFr_trans (zFr_mono f1 (by simp) (by simp)) (zFr_st u1519 (Or.inl (by simp)))) (zFr_st u1522 (Or.inr (by simp)))) (zFr_mono f2 (by simp) (by simp))) (zFr_st u1527 (Or.inl (by simp))))), ((u1527.2.1 170 34 (fun q => absurd q.1 (by decide))).trans ((f2.1 170 34 (by decide) (by decide)).trans u1522.1)), (fun i hi => ⟨((u1527.2.1 185 i (fun q => absurd q.1 (by decide))).trans ((f2.1 185 i (by simp) (by simp)).trans ((u1522.2.1 185 i (fun q => absurd q.1 (by decide))).trans ((u1519.2.1 185 i (fun q => hi q.2)).trans (f1.1 185 i (by simp) (by simp)))))), ((u1527.2.1 186 i (fun q => hi q.2)).trans ((f2.1 186 i (by simp) (by simp)).trans ((u1522.2.1 186 i (fun q => absurd q.1 (by decide))).trans ((u1519.2.1 186 i (fun q => absurd q.1 (by decide))).trans (f1.1 186 i (by simp) (by simp)))))), ((u1527.2.1 187 i (fun q => absurd q.1 (by decide))).trans ((f2.1 187 i (by simp) (by simp)).trans ((u1522.2.1 187 i (fun q => absurd q.1 (by decide))).trans ((u1519.2.1 187 i (fun q => absurd q.1 (by decide))).trans (f1.1 187 i (by simp) (by simp)))))), ((u1527.2.1 188 i (fun q => absurd q.1 (by decide))).trans ((f2.1 188 i (by simp) (by simp)).trans ((u1522.2.1 188 i (fun q => absurd q.1 (by decide))).trans ((u1519.2.1 188 i (fun q => absurd q.1 (by decide))).trans (f1.1 188 i (by simp) (by simp))))))⟩), Or.inl ⟨rfl, by omega, by omega, ?_, hT8, by rw [e5]; exact ((u1527.2.1 185 k (fun q => absurd q.1 (by decide))).trans ((f2.1 185 k (by decide) (by simp)).trans ((u1522.2.1 185 k (fun q => absurd q.1 (by decide))).trans u1519.1))), u1527.1, (fun h => absurd h (by omega)), (fun h => absurd h (by omega))⟩⟩
        rw [ew3]
        exact (fun j hj => by
          rw [show j = 0 by omega, Nat.add_zero]; exact zdi_t n1.2)
    · show zW n D 253 Q 49 [some (.ref 170), some (.int (zn k))] [.int (Int32.ofInt (-1)), .int (zn k), .ref 186] ph1526
      refine w_ias (pc' := 50) (k := k) (ykc_253 (e := (5, .iastore, 0)) rfl) (by omega) rfl (fun ph1552 u1551 => ?_)
      refine w_load (pc' := 51) (v := .ref 170) (m := 1) (ykc_253 (e := (2, .aload_n kF0, 0)) rfl) rfl rfl ?_
      refine w_gf (pc' := 54) (v := .ref 186) (ykc_253 (e := (5, .getfield 77, 0)) rfl) rfl ((u1551.2.1 170 31 (fun q => absurd q.1 (by decide))).trans ((f2.1 170 31 (by decide) (by decide)).trans ((u1522.2.1 170 31 (fun q => absurd q.2 (by decide))).trans ((u1519.2.1 170 31 (fun q => absurd q.1 (by decide))).trans ((f1.1 170 31 (by decide) (by decide)).trans (zsg hS zs_170_31)))))) rfl ?_
      refine w_load (pc' := 55) (v := .int (zn k)) (m := 1) (ykc_253 (e := (2, .iload_n kF1, 0)) rfl) rfl rfl ?_
      refine w_ialk (pc' := 56) (k := k) (ykc_253 (e := (5, .iaload, 0)) rfl) u1551.1 (by omega) rfl ?_
      refine w_zlt (ykc_253 (e := (4, .ifCond .lt 12, 68)) rfl) rfl (fun b1553 => ?_) (fun q => by exfalso; omega)
      refine w_load (pc' := 69) (v := .ref 170) (m := 1) (ykc_253 (e := (2, .aload_n kF0, 0)) rfl) rfl rfl ?_
      refine w_gf (pc' := 72) (v := .ref 186) (ykc_253 (e := (5, .getfield 77, 0)) rfl) rfl ((u1551.2.1 170 31 (fun q => absurd q.1 (by decide))).trans ((f2.1 170 31 (by decide) (by decide)).trans ((u1522.2.1 170 31 (fun q => absurd q.2 (by decide))).trans ((u1519.2.1 170 31 (fun q => absurd q.1 (by decide))).trans ((f1.1 170 31 (by decide) (by decide)).trans (zsg hS zs_170_31)))))) rfl ?_
      refine w_load (pc' := 73) (v := .int (zn k)) (m := 1) (ykc_253 (e := (2, .iload_n kF1, 0)) rfl) rfl rfl ?_
      refine w_ialk (pc' := 74) (k := k) (ykc_253 (e := (5, .iaload, 0)) rfl) u1551.1 (by omega) rfl ?_
      refine w_zlt (ykc_253 (e := (4, .ifCond .lt 7, 81)) rfl) rfl (fun b1554 => ?_) (fun q => by exfalso; omega)
      refine w_alu (pc' := 82) (st' := [.int (Int32.ofInt 0)]) (ykc_253 (e := (0, .iconst 0, 0)) rfl) rfl rfl ?_
      refine w_ret (v := (some (.int (Int32.ofInt 0)))) (ykc_253 (e := (7, .ireturn, 0)) rfl) zr_z ?_
      rw [hQ, zi0]
      exact ⟨(show zFr [185, 186, 187, 188] [(170, 15), (170, 34)] ph ph1552 from (zFr_trans (zFr_trans (zFr_trans (zFr_trans (zFr_mono f1 (by simp) (by simp)) (zFr_st u1519 (Or.inl (by simp)))) (zFr_st u1522 (Or.inr (by simp)))) (zFr_mono f2 (by simp) (by simp))) (zFr_st u1551 (Or.inl (by simp))))), ((u1551.2.1 170 34 (fun q => absurd q.1 (by decide))).trans ((f2.1 170 34 (by decide) (by decide)).trans u1522.1)), (fun i hi => ⟨((u1551.2.1 185 i (fun q => absurd q.1 (by decide))).trans ((f2.1 185 i (by simp) (by simp)).trans ((u1522.2.1 185 i (fun q => absurd q.1 (by decide))).trans ((u1519.2.1 185 i (fun q => hi q.2)).trans (f1.1 185 i (by simp) (by simp)))))), ((u1551.2.1 186 i (fun q => hi q.2)).trans ((f2.1 186 i (by simp) (by simp)).trans ((u1522.2.1 186 i (fun q => absurd q.1 (by decide))).trans ((u1519.2.1 186 i (fun q => absurd q.1 (by decide))).trans (f1.1 186 i (by simp) (by simp)))))), ((u1551.2.1 187 i (fun q => absurd q.1 (by decide))).trans ((f2.1 187 i (by simp) (by simp)).trans ((u1522.2.1 187 i (fun q => absurd q.1 (by decide))).trans ((u1519.2.1 187 i (fun q => absurd q.1 (by decide))).trans (f1.1 187 i (by simp) (by simp)))))), ((u1551.2.1 188 i (fun q => absurd q.1 (by decide))).trans ((f2.1 188 i (by simp) (by simp)).trans ((u1522.2.1 188 i (fun q => absurd q.1 (by decide))).trans ((u1519.2.1 188 i (fun q => absurd q.1 (by decide))).trans (f1.1 188 i (by simp) (by simp))))))⟩), Or.inr ⟨rfl, a + 1, ⟨hab, Or.inr ⟨0, by omega, rfl, by omega, fun j hj => absurd hj (Nat.not_lt_zero j), fun h => zdi_f (fun q => n1 ⟨h, q⟩)⟩⟩, (zTm_F (zFr_st u1551 (Or.inl (by simp)) : zFr [186] [] _ _) (by simp) (by simp) (by simp) hT1)⟩⟩
    
  · show zW n D 253 Q 17 [some (.ref 170), some (.int (zn k))] [.int (Int32.ofInt (-1)), .int (zn k), .ref 185] ph1518
    refine w_ias (pc' := 18) (k := k) (ykc_253 (e := (5, .iastore, 0)) rfl) (by omega) rfl (fun ph1556 u1555 => ?_)
    refine w_load (pc' := 19) (v := .ref 170) (m := 1) (ykc_253 (e := (2, .aload_n kF0, 0)) rfl) rfl rfl ?_
    refine w_alu (pc' := 20) (st' := [.ref 170, .ref 170]) (ykc_253 (e := (0, .dup, 0)) rfl) rfl rfl ?_
    refine w_gf (pc' := 23) (v := .int (zn k)) (ykc_253 (e := (5, .getfield 392, 0)) rfl) rfl ((u1555.2.1 170 34 (fun q => absurd q.1 (by decide))).trans ((f1.1 170 34 (by decide) (by decide)).trans hk)) rfl ?_
    refine w_alu (pc' := 24) (st' := [.int (Int32.ofInt 1), .int (zn k), .ref 170]) (ykc_253 (e := (0, .iconst 1, 0)) rfl) rfl rfl ?_
    have e1557 : (zn k) + (Int32.ofInt 1) = zn (k + 1) := (zaddN (a := k) (b := 1) (znt (by omega)) c_1 (by omega)) 
    have te1557 := znt (k := k + 1) (by omega)
    refine w_alu (pc' := 25) (st' := [.int (zn (k + 1)), .ref 170]) (ykc_253 (e := (0, .iadd, 0)) rfl) (by rw [← e1557]; rfl) rfl ?_
    refine w_pf (pc' := 28) (ykc_253 (e := (5, .putfield 392, 0)) rfl) rfl rfl (fun ph1559 u1558 => ?_)
    refine w_load (pc' := 29) (v := .ref 170) (m := 1) (ykc_253 (e := (2, .aload_n kF0, 0)) rfl) rfl rfl ?_
    refine w_gf (pc' := 32) (v := .ref 185) (ykc_253 (e := (5, .getfield 74, 0)) rfl) rfl ((u1558.2.1 170 30 (fun q => absurd q.2 (by decide))).trans ((u1555.2.1 170 30 (fun q => absurd q.1 (by decide))).trans ((f1.1 170 30 (by decide) (by decide)).trans (zsg hS zs_170_30)))) rfl ?_
    refine w_load (pc' := 33) (v := .int (zn k)) (m := 1) (ykc_253 (e := (2, .iload_n kF1, 0)) rfl) rfl rfl ?_
    refine w_ialk (pc' := 34) (k := k) (ykc_253 (e := (5, .iaload, 0)) rfl) ((u1558.2.1 185 k (fun q => absurd q.1 (by decide))).trans u1555.1) (by omega) rfl ?_
    refine w_zge (ykc_253 (e := (4, .ifCond .ge 5, 39)) rfl) rfl (fun q => by exfalso; omega) (fun b1560 => ?_)
    refine w_alu (pc' := 38) (st' := [.int (Int32.ofInt 0)]) (ykc_253 (e := (0, .iconst 0, 0)) rfl) rfl rfl ?_
    refine w_ret (v := (some (.int (Int32.ofInt 0)))) (ykc_253 (e := (7, .ireturn, 0)) rfl) zr_z ?_
    rw [hQ, zi0]
    exact ⟨(show zFr [185, 186, 187, 188] [(170, 15), (170, 34)] ph ph1559 from (zFr_trans (zFr_trans (zFr_mono f1 (by simp) (by simp)) (zFr_st u1555 (Or.inl (by simp)))) (zFr_st u1558 (Or.inr (by simp))))), u1558.1, (fun i hi => ⟨((u1558.2.1 185 i (fun q => absurd q.1 (by decide))).trans ((u1555.2.1 185 i (fun q => hi q.2)).trans (f1.1 185 i (by simp) (by simp)))), ((u1558.2.1 186 i (fun q => absurd q.1 (by decide))).trans ((u1555.2.1 186 i (fun q => absurd q.1 (by decide))).trans (f1.1 186 i (by simp) (by simp)))), ((u1558.2.1 187 i (fun q => absurd q.1 (by decide))).trans ((u1555.2.1 187 i (fun q => absurd q.1 (by decide))).trans (f1.1 187 i (by simp) (by simp)))), ((u1558.2.1 188 i (fun q => absurd q.1 (by decide))).trans ((u1555.2.1 188 i (fun q => absurd q.1 (by decide))).trans (f1.1 188 i (by simp) (by simp))))⟩), Or.inr ⟨rfl, a, ⟨hab, Or.inl ⟨rfl, zdw_n (fun k2 hk2 => hn9 hab k2 hk2)⟩⟩, (zTm_F (zFr_st u1558 (Or.inr (by simp)) : zFr [] [(170, 34)] _ _) (by simp) (by simp) (by simp) (zTm_F (zFr_st u1555 (Or.inl (by simp)) : zFr [185] [] _ _) (by simp) (by simp) (by simp) hTa))⟩⟩
  
end
section
/-! one act of a DAY, class and reference, by W; printed by wip/z/z1n_does.py -/
/-- what an act at s does to a row, or none: it can't be -/
noncomputable def zAct (E : zEn) (P G : Nat) (v t : Nat → Nat) (s : Nat) : Option (Nat → Nat) :=
  if t s = 110 then some (zHqn E P G v (t (s + 1) - 48))
  else if t s = 102 then (if t (s + 1) - 48 < P ∧ t (s + 2) - 48 < 8 then some (znu v (8 + (t (s + 1) - 48)) (t (s + 2) - 48)) else none)
  else if t s = 103 then (if t (s + 1) - 48 < P ∧ t (s + 2) - 48 < 8 ∧ 0 ≤ zbk E.1 E.2.1 E.2.2.1 (v (t (s + 1) - 48)) (t (s + 2) - 48) then some (znu v (t (s + 1) - 48) (zbk E.1 E.2.1 E.2.2.1 (v (t (s + 1) - 48)) (t (s + 2) - 48)).toNat) else none)
  else if t s = 98 then (if t (s + 1) - 48 < P ∧ t (s + 2) - 48 ≤ 4 then some (znu v (16 + (t (s + 1) - 48)) (t (s + 2) - 48)) else none)
  else (if t (s + 2) - 48 < E.1 ∧ t (s + 3) - 48 < E.2.1 ∧ t (s + 1) - 48 < G ∧ v (32 + (t (s + 1) - 48)) ≠ E.2.1 * (t (s + 2) - 48) + (t (s + 3) - 48) then some (znu v (32 + (t (s + 1) - 48)) (E.2.1 * (t (s + 2) - 48) + (t (s + 3) - 48))) else none)
theorem zdw_c {c : Nat} (h : 0 < zdw c) : c = 110 ∨ c = 102 ∨ c = 103 ∨ c = 98 ∨ c = 112 := by
  unfold zdw at h
  by_cases e1 : c = 110
  · exact Or.inl e1
  · by_cases e2 : c = 102
    · exact Or.inr (Or.inl e2)
    · by_cases e3 : c = 103
      · exact Or.inr (Or.inr (Or.inl e3))
      · by_cases e4 : c = 98
        · exact Or.inr (Or.inr (Or.inr (Or.inl e4)))
        · by_cases e5 : c = 112
          · exact Or.inr (Or.inr (Or.inr (Or.inr e5)))
          · rw [if_neg e1, if_neg e2, if_neg e3, if_neg e4, if_neg e5] at h
            omega
theorem zKw_b {v : Nat → Nat} : ∀ n, n ≤ 8 → (∀ p, p < n → v (24 + p) < 256) → ∃ k, k ≤ 8 * n ∧ zKw v n = zn k
  | 0, _, _ => ⟨0, by decide, rfl⟩
  | n + 1, h8, h => by
    obtain ⟨k, h1, h2⟩ := zKw_b n (by omega) (fun p hp => h p (by omega))
    obtain ⟨g1, g2⟩ := zpn_n (v (24 + n)) (h n (by omega))
    refine ⟨k + zpn (v (24 + n)), by omega, ?_⟩
    show zKw v n + zpc (zn (v (24 + n))) = _
    rw [h2, g1]
    exact zaddN (znt (by omega)) (znt (by omega)) (by omega)
theorem zm_goesOn {ph : pm_H} {E : zEn} {P G A N : Nat} {v : Nat → Nat} {y : Int32} (hS : zSh ph) (hE : zMe ph E) (hN : zMp ph P G) (hA : A = 174 ∨ A = 175) (hv : zNr ph A 0 v) (hO : zOk E.1 E.2.1 P G v) (hy : y.toInt = (N : Int)) (hh : v 40 + N < 999999) : zM 243 [.ref 170, .ref A, .int y] ph (fun v0 q => v0 = none ∧ zHc A ph q ∧ zNr q A 0 (zHqn E P G v N)) := by
  obtain ⟨Q, hQ⟩ : ∃ Q : Option Value → pm_H → Prop, Q = (fun v0 q => v0 = none ∧ zHc A ph q ∧ zNr q A 0 (zHqn E P G v N)) := ⟨_, rfl⟩
  rw [← hQ]
  refine zM_mk fun n D => ?_
  show zW n D 243 Q 0 [some (.ref 170), some (.ref A), some (.int y), none] [] ph
  have c_0 : (Int32.ofInt 0).toInt = 0 := by decide
  have c_1 : (Int32.ofInt 1).toInt = 1 := by decide
  have hy9 := x32_hi y
  have hP8 : P ≤ 8 := hN.2.1
  have hG8 : G ≤ 8 := hN.2.2.2
  refine w_alu (pc' := 1) (st' := [.int (Int32.ofInt 0)]) (ykc_243 (e := (0, .iconst 0, 0)) rfl) rfl rfl ?_
  refine w_store (pc' := 2) (L' := [some (.ref 170), some (.ref A), some (.int y), some (.int (Int32.ofInt 0))]) (st' := []) (m := 1) (ykc_243 (e := (3, .istore_n kF3, 0)) rfl) rfl rfl ?_
  have hl1 : ∀ (n : Nat), ∀ (k : Nat) (p : pm_H), (k ≤ N) → (zHc A ph p) → (zNr p A 0 (zHqn E P G v k)) → zW n D 243 Q 2 [some (.ref 170), some (.ref A), some (.int y), some (.int (zn k))] [] p := by
    intro n
    induction n using Nat.strongRecOn with
    | ind n ih =>
      intro k p hk hf hvk
      have tk := znt (k := k) (by omega)
      refine w_load (pc' := 3) (v := .int (zn k)) (m := 1) (ykc_243 (e := (2, .iload_n kF3, 0)) rfl) rfl rfl ?_
      refine w_load (pc' := 4) (v := .int y) (m := 1) (ykc_243 (e := (2, .iload_n kF2, 0)) rfl) rfl rfl ?_
      refine w_ige (ykc_243 (e := (4, .if_icmp .ge 14, 18)) rfl) rfl (fun b1517 => ?_) (fun b1517 => ?_)
      · refine w_ret (v := none) (ykc_243 (e := (7, .return_, 0)) rfl) (zr_v rfl) ?_
        rw [hQ]
        have ek : k = N := by omega
        subst ek
        exact ⟨rfl, hf, hvk⟩
      · refine w_load (pc' := 8) (v := .ref 170) (m := 1) (ykc_243 (e := (2, .aload_n kF0, 0)) rfl) rfl rfl ?_
        refine w_load (pc' := 9) (v := .ref A) (m := 1) (ykc_243 (e := (2, .aload_n kF1, 0)) rfl) rfl rfl ?_
        have h40 := zHqn_40 (E := E) (G := G) (v := v) hP8 k
        refine w_cv (as := [.ref 170, .ref A]) (r := []) (ykc_243 (e := (6, .invokevirtual 347, 0)) rfl) rfl rfl rfl rfl (zm_hour (zHc_S hA hf hS) (zHc_e hA hf hE) (zHc_p hA hf hN) hA hvk (zHqn_ok hO hP8 hG8 k (by omega)) (by omega)) (fun v1518 ph1519 hv => ?_)
        obtain ⟨rfl, f2, hv2⟩ := hv
        show zW n D 243 Q 12 [some (.ref 170), some (.ref A), some (.int y), some (.int (zn k))] [] ph1519
        have e1520 : (zn k) + Int32.ofInt 1 = zn (k + 1) := (zaddN (a := k) (b := 1) (znt (by omega)) c_1 (by omega))
        have te1520 := znt (k := k + 1) (by omega)
        refine w_store (pc' := 15) (L' := [some (.ref 170), some (.ref A), some (.int y), some (.int (zn (k + 1)))]) (st' := []) (m := 3) (ykc_243 (e := (3, .iinc 3 1, 0)) rfl) (by rw [← e1520]; rfl) rfl ?_
        refine w_gb (ykc_243 (e := (4, .goto (-13), 2)) rfl) (fun k1521 hk1521 => ?_)
        rw [show zHr E P G (zHqn E P G v k) = zHqn E P G v (k + 1) from zHr_eq] at hv2
        exact ih k1521 hk1521 (k + 1) _ (by omega) (zFr_trans hf f2) hv2
  exact hl1 n 0 _ (Nat.zero_le _) zFr_refl hv
theorem zm_doesR {ph : pm_H} {E : zEn} {P G b k i : Nat} {v t : Nat → Nat} {x : Int32} (hS : zSh ph) (hE : zMe ph E) (hN : zMp ph P G) (hv : zNr ph 174 0 v) (hO : zOk E.1 E.2.1 P G v) (hh : v 40 < 999000) (hD : zEd ph t k) (hg : zDok b t k) (hk : k ≤ 60) (hx : x.toInt = (i : Int)) (hi : i < k) : zM 254 [.ref 170, .int x] ph (fun v0 q => zFr [174, 181, 182, 184] [] ph q ∧ ((∃ v2, zAct E P G v t (zDp t i) = some v2 ∧ v0 = some (.int (zI true)) ∧ zNr q 174 0 v2) ∨ (zAct E P G v t (zDp t i) = none ∧ v0 = some (.int (zI false)) ∧ zNr q 174 0 v))) := by
  obtain ⟨Q, hQ⟩ : ∃ Q : Option Value → pm_H → Prop, Q = (fun v0 q => zFr [174, 181, 182, 184] [] ph q ∧ ((∃ v2, zAct E P G v t (zDp t i) = some v2 ∧ v0 = some (.int (zI true)) ∧ zNr q 174 0 v2) ∨ (zAct E P G v t (zDp t i) = none ∧ v0 = some (.int (zI false)) ∧ zNr q 174 0 v))) := ⟨_, rfl⟩
  rw [← hQ]
  refine zM_mk fun n D => ?_
  show zW n D 254 Q 0 [some (.ref 170), some (.int x), none, none] [] ph
  have c_0 : (Int32.ofInt 0).toInt = 0 := by decide
  have c_1 : (Int32.ofInt 1).toInt = 1 := by decide
  have hx9 := x32_hi x
  have hL0 : zMl ph E.1 E.2.1 E.2.2.1 := hE.1
  obtain ⟨d1, d2, d3, d4⟩ := hD i hi
  obtain ⟨g1, g2, g3⟩ := hg i hi
  obtain ⟨s, hs⟩ : ∃ s, zDp t i = s := ⟨_, rfl⟩
  rw [hs] at d1 d2 d3 d4 g1 g2 g3
  have q1 := zdi_d (g3 0 (by omega))
  rw [Nat.add_zero] at q1
  have tq1 := znt (k := t (s + 1) - 48) (by omega)
  have hR7 : 3 ≤ E.1 ∧ E.1 ≤ 7 ∧ 3 ≤ E.2.1 ∧ E.2.1 ≤ 7 := ⟨hL0.2.2.2.1, hL0.2.2.2.2.1, hL0.2.2.2.2.2.1, hL0.2.2.2.2.2.2⟩
  have hP8 : P ≤ 8 := hN.2.1
  have hG8 : G ≤ 8 := hN.2.2.2
  have tE1 := znt (k := E.1) (by omega)
  have tE2 := znt (k := E.2.1) (by omega)
  refine w_load (pc' := 1) (v := .ref 170) (m := 1) (ykc_254 (e := (2, .aload_n kF0, 0)) rfl) rfl rfl ?_
  refine w_gf (pc' := 4) (v := .ref 186) (ykc_254 (e := (5, .getfield 77, 0)) rfl) rfl (zsg hS zs_170_31) rfl ?_
  refine w_load (pc' := 5) (v := .int x) (m := 1) (ykc_254 (e := (2, .iload_n kF1, 0)) rfl) rfl rfl ?_
  refine w_ialk (pc' := 6) (k := i) (ykc_254 (e := (5, .iaload, 0)) rfl) d2 (by omega) rfl ?_
  refine w_store (pc' := 7) (L' := [some (.ref 170), some (.int x), some (.int (zn (t (s + 1) - 48))), none]) (st' := []) (m := 1) (ykc_254 (e := (3, .istore_n kF2, 0)) rfl) rfl rfl ?_
  refine w_load (pc' := 8) (v := .ref 170) (m := 1) (ykc_254 (e := (2, .aload_n kF0, 0)) rfl) rfl rfl ?_
  refine w_gf (pc' := 11) (v := .ref 185) (ykc_254 (e := (5, .getfield 74, 0)) rfl) rfl (zsg hS zs_170_30) rfl ?_
  refine w_load (pc' := 12) (v := .int x) (m := 1) (ykc_254 (e := (2, .iload_n kF1, 0)) rfl) rfl rfl ?_
  refine w_ialk (pc' := 13) (k := i) (ykc_254 (e := (5, .iaload, 0)) rfl) d1 (by omega) rfl ?_
  rcases zdw_c g1 with e | e | e | e | e
  · refine w_br (pc' := 44) (st' := []) (ykc_254 (e := (4, .tableswitch 110 0 3 #[31, 42, 66, 90], 31)) rfl) (by rw [e]; rfl) ?_
    refine w_load (pc' := 45) (v := .ref 170) (m := 1) (ykc_254 (e := (2, .aload_n kF0, 0)) rfl) rfl rfl ?_
    refine w_load (pc' := 46) (v := .ref 170) (m := 1) (ykc_254 (e := (2, .aload_n kF0, 0)) rfl) rfl rfl ?_
    refine w_gf (pc' := 49) (v := .ref 174) (ykc_254 (e := (5, .getfield 41, 0)) rfl) rfl (zsg hS zs_170_11) rfl ?_
    refine w_load (pc' := 50) (v := .int (zn (t (s + 1) - 48))) (m := 1) (ykc_254 (e := (2, .iload_n kF2, 0)) rfl) rfl rfl ?_
    refine w_cv (as := [.ref 170, .ref 174, .int (zn (t (s + 1) - 48))]) (r := []) (ykc_254 (e := (6, .invokevirtual 370, 0)) rfl) rfl rfl rfl rfl (zm_goesOn (N := t (s + 1) - 48) hS hE hN (Or.inl rfl) hv hO tq1 (by omega)) (fun v1522 ph1523 hv => ?_)
    rcases hv with ⟨rfl, f2, hv2⟩
    · show zW n D 254 Q 53 [some (.ref 170), some (.int x), some (.int (zn (t (s + 1) - 48))), none] [] ph1523
      refine w_alu (pc' := 54) (st' := [.int (Int32.ofInt 1)]) (ykc_254 (e := (0, .iconst 1, 0)) rfl) rfl rfl ?_
      refine w_ret (v := (some (.int (Int32.ofInt 1)))) (ykc_254 (e := (7, .ireturn, 0)) rfl) zr_z ?_
      rw [hQ, zi1]
      refine ⟨zFr_mono f2 (by simp) (by simp), Or.inl ⟨_, ?_, rfl, hv2⟩⟩
      rw [hs]
      unfold zAct
      rw [if_pos e]
    
  · have q2 : 48 ≤ t (s + 2) ∧ t (s + 2) ≤ 57 := zdi_d (g3 1 (by rw [e]; decide))
    have tq2 := znt (k := t (s + 2) - 48) (by omega)
    have d3 := d3 (by rw [e]; decide)
    refine w_br (pc' := 55) (st' := []) (ykc_254 (e := (4, .tableswitch 110 0 3 #[31, 42, 66, 90], 31)) rfl) (by rw [e]; rfl) ?_
    refine w_load (pc' := 56) (v := .ref 170) (m := 1) (ykc_254 (e := (2, .aload_n kF0, 0)) rfl) rfl rfl ?_
    refine w_load (pc' := 57) (v := .ref 170) (m := 1) (ykc_254 (e := (2, .aload_n kF0, 0)) rfl) rfl rfl ?_
    refine w_gf (pc' := 60) (v := .ref 174) (ykc_254 (e := (5, .getfield 41, 0)) rfl) rfl (zsg hS zs_170_11) rfl ?_
    refine w_load (pc' := 61) (v := .int (zn (t (s + 1) - 48))) (m := 1) (ykc_254 (e := (2, .iload_n kF2, 0)) rfl) rfl rfl ?_
    refine w_load (pc' := 62) (v := .ref 170) (m := 1) (ykc_254 (e := (2, .aload_n kF0, 0)) rfl) rfl rfl ?_
    refine w_gf (pc' := 65) (v := .ref 187) (ykc_254 (e := (5, .getfield 80, 0)) rfl) rfl (zsg hS zs_170_32) rfl ?_
    refine w_load (pc' := 66) (v := .int x) (m := 1) (ykc_254 (e := (2, .iload_n kF1, 0)) rfl) rfl rfl ?_
    refine w_ialk (pc' := 67) (k := i) (ykc_254 (e := (5, .iaload, 0)) rfl) d3 (by omega) rfl ?_
    refine w_cv (as := [.ref 170, .ref 174, .int (zn (t (s + 1) - 48)), .int (zn (t (s + 2) - 48))]) (r := []) (ykc_254 (e := (6, .invokevirtual 377, 0)) rfl) rfl rfl rfl rfl (zm_faces1 hS hE.1 hN (Or.inl rfl) hv hO) (fun v1524 ph1525 hv => ?_)
    rcases hv with ⟨hbad, rfl, rfl⟩ | ⟨p, f, hp9, hf9, hpP, hf8, rfl, u9⟩
    · have tm1 : (Int32.ofInt (-1)).toInt = -1 := by decide
      show zW n D 254 Q 70 [some (.ref 170), some (.int x), some (.int (zn (t (s + 1) - 48))), none] [.int (Int32.ofInt (-1))] ph
      refine w_zlt (ykc_254 (e := (4, .ifCond .lt 7, 77)) rfl) rfl (fun b1526 => ?_) (fun q => by exfalso; omega)
      refine w_alu (pc' := 78) (st' := [.int (Int32.ofInt 0)]) (ykc_254 (e := (0, .iconst 0, 0)) rfl) rfl rfl ?_
      refine w_ret (v := (some (.int (Int32.ofInt 0)))) (ykc_254 (e := (7, .ireturn, 0)) rfl) zr_z ?_
      rw [hQ, zi0]
      refine ⟨zFr_refl, Or.inr ⟨?_, rfl, hv⟩⟩
      rw [hs]
      unfold zAct
      rw [if_neg (show ¬ t s = 110 by omega)]
      rw [if_pos e]
      rw [if_neg (by omega)]
    · have ep : p = t (s + 1) - 48 := zn_inj hp9.symm (by omega) (by omega)
      have ef : f = t (s + 2) - 48 := zn_inj hf9.symm (by omega) (by omega)
      subst ep ef
      have tz8 := znt (k := ze8 (v (8 + (t (s + 1) - 48))) (t (s + 2) - 48)) (by unfold ze8; omega)
      show zW n D 254 Q 70 [some (.ref 170), some (.int x), some (.int (zn (t (s + 1) - 48))), none] [.int (zn (ze8 (v (8 + (t (s + 1) - 48))) (t (s + 2) - 48)))] ph1525
      refine w_zlt (ykc_254 (e := (4, .ifCond .lt 7, 77)) rfl) rfl (fun q => by exfalso; omega) (fun b1527 => ?_)
      refine w_alu (pc' := 74) (st' := [.int (Int32.ofInt 1)]) (ykc_254 (e := (0, .iconst 1, 0)) rfl) rfl rfl ?_
      refine w_br (pc' := 78) (st' := [.int (Int32.ofInt 1)]) (ykc_254 (e := (4, .goto 4, 78)) rfl) rfl ?_
      refine w_ret (v := (some (.int (Int32.ofInt 1)))) (ykc_254 (e := (7, .ireturn, 0)) rfl) zr_z ?_
      rw [hQ, zi1]
      refine ⟨zFr_st u9 (Or.inl (by simp)), Or.inl ⟨znu v (8 + (t (s + 1) - 48)) (t (s + 2) - 48), ?_, rfl, zNr_u u9 hv⟩⟩
      rw [hs]
      unfold zAct
      rw [if_neg (show ¬ t s = 110 by omega)]
      rw [if_pos e]
      rw [if_pos ⟨by omega, by omega⟩]
    
  · have q2 : 48 ≤ t (s + 2) ∧ t (s + 2) ≤ 57 := zdi_d (g3 1 (by rw [e]; decide))
    have tq2 := znt (k := t (s + 2) - 48) (by omega)
    have d3 := d3 (by rw [e]; decide)
    refine w_br (pc' := 79) (st' := []) (ykc_254 (e := (4, .tableswitch 110 0 3 #[31, 42, 66, 90], 31)) rfl) (by rw [e]; rfl) ?_
    refine w_load (pc' := 80) (v := .ref 170) (m := 1) (ykc_254 (e := (2, .aload_n kF0, 0)) rfl) rfl rfl ?_
    refine w_load (pc' := 81) (v := .ref 170) (m := 1) (ykc_254 (e := (2, .aload_n kF0, 0)) rfl) rfl rfl ?_
    refine w_gf (pc' := 84) (v := .ref 174) (ykc_254 (e := (5, .getfield 41, 0)) rfl) rfl (zsg hS zs_170_11) rfl ?_
    refine w_load (pc' := 85) (v := .int (zn (t (s + 1) - 48))) (m := 1) (ykc_254 (e := (2, .iload_n kF2, 0)) rfl) rfl rfl ?_
    refine w_load (pc' := 86) (v := .ref 170) (m := 1) (ykc_254 (e := (2, .aload_n kF0, 0)) rfl) rfl rfl ?_
    refine w_gf (pc' := 89) (v := .ref 187) (ykc_254 (e := (5, .getfield 80, 0)) rfl) rfl (zsg hS zs_170_32) rfl ?_
    refine w_load (pc' := 90) (v := .int x) (m := 1) (ykc_254 (e := (2, .iload_n kF1, 0)) rfl) rfl rfl ?_
    refine w_ialk (pc' := 91) (k := i) (ykc_254 (e := (5, .iaload, 0)) rfl) d3 (by omega) rfl ?_
    refine w_cv (as := [.ref 170, .ref 174, .int (zn (t (s + 1) - 48)), .int (zn (t (s + 2) - 48))]) (r := []) (ykc_254 (e := (6, .invokevirtual 383, 0)) rfl) rfl rfl rfl rfl (zm_steps1 hS hE.1 hN (Or.inl rfl) hv hO) (fun v1528 ph1529 hv => ?_)
    rcases hv with ⟨hbad, rfl, rfl⟩ | ⟨p, f, hp9, hf9, hpP, hf8, ⟨hrk, rfl, rfl⟩ | ⟨g, hgR, hgk, rfl, u9⟩⟩
    · have tm1 : (Int32.ofInt (-1)).toInt = -1 := by decide
      show zW n D 254 Q 94 [some (.ref 170), some (.int x), some (.int (zn (t (s + 1) - 48))), none] [.int (Int32.ofInt (-1))] ph
      refine w_zlt (ykc_254 (e := (4, .ifCond .lt 7, 101)) rfl) rfl (fun b1530 => ?_) (fun q => by exfalso; omega)
      refine w_alu (pc' := 102) (st' := [.int (Int32.ofInt 0)]) (ykc_254 (e := (0, .iconst 0, 0)) rfl) rfl rfl ?_
      refine w_ret (v := (some (.int (Int32.ofInt 0)))) (ykc_254 (e := (7, .ireturn, 0)) rfl) zr_z ?_
      rw [hQ, zi0]
      refine ⟨zFr_refl, Or.inr ⟨?_, rfl, hv⟩⟩
      rw [hs]
      unfold zAct
      rw [if_neg (show ¬ t s = 110 by omega)]
      rw [if_neg (show ¬ t s = 102 by omega)]
      rw [if_pos e]
      rw [if_neg (by omega)]
    · have ep : p = t (s + 1) - 48 := zn_inj hp9.symm (by omega) (by omega)
      have ef : f = t (s + 2) - 48 := zn_inj hf9.symm (by omega) (by omega)
      subst ep ef
      have tm2 : ((Int8.ofInt (-2)).toInt32).toInt = -2 := by decide
      show zW n D 254 Q 94 [some (.ref 170), some (.int x), some (.int (zn (t (s + 1) - 48))), none] [.int ((Int8.ofInt (-2)).toInt32)] ph
      refine w_zlt (ykc_254 (e := (4, .ifCond .lt 7, 101)) rfl) rfl (fun b1531 => ?_) (fun q => by exfalso; omega)
      refine w_alu (pc' := 102) (st' := [.int (Int32.ofInt 0)]) (ykc_254 (e := (0, .iconst 0, 0)) rfl) rfl rfl ?_
      refine w_ret (v := (some (.int (Int32.ofInt 0)))) (ykc_254 (e := (7, .ireturn, 0)) rfl) zr_z ?_
      rw [hQ, zi0]
      refine ⟨zFr_refl, Or.inr ⟨?_, rfl, hv⟩⟩
      rw [hs]
      unfold zAct
      rw [if_neg (show ¬ t s = 110 by omega)]
      rw [if_neg (show ¬ t s = 102 by omega)]
      rw [if_pos e]
      rw [if_neg (fun q => by have q2 := q.2.2; omega)]
    · have tg := znt (k := g) (by have := zRC49 hR7.2.1 hR7.2.2.2; omega)
      have ep : p = t (s + 1) - 48 := zn_inj hp9.symm (by omega) (by omega)
      have ef : f = t (s + 2) - 48 := zn_inj hf9.symm (by omega) (by omega)
      subst ep ef
      show zW n D 254 Q 94 [some (.ref 170), some (.int x), some (.int (zn (t (s + 1) - 48))), none] [.int (zn g)] ph1529
      refine w_zlt (ykc_254 (e := (4, .ifCond .lt 7, 101)) rfl) rfl (fun q => by exfalso; omega) (fun b1532 => ?_)
      refine w_alu (pc' := 98) (st' := [.int (Int32.ofInt 1)]) (ykc_254 (e := (0, .iconst 1, 0)) rfl) rfl rfl ?_
      refine w_br (pc' := 102) (st' := [.int (Int32.ofInt 1)]) (ykc_254 (e := (4, .goto 4, 102)) rfl) rfl ?_
      refine w_ret (v := (some (.int (Int32.ofInt 1)))) (ykc_254 (e := (7, .ireturn, 0)) rfl) zr_z ?_
      rw [hQ, zi1]
      refine ⟨zFr_st u9 (Or.inl (by simp)), Or.inl ⟨znu v ((t (s + 1) - 48)) g, ?_, rfl, zNr_u u9 hv⟩⟩
      rw [hs]
      unfold zAct
      rw [if_neg (show ¬ t s = 110 by omega)]
      rw [if_neg (show ¬ t s = 102 by omega)]
      rw [if_pos e]
      rw [if_pos ⟨by omega, by omega, by rw [hgk]; omega⟩, hgk]
      rfl
    
  · have q2 : 48 ≤ t (s + 2) ∧ t (s + 2) ≤ 57 := zdi_d (g3 1 (by rw [e]; decide))
    have tq2 := znt (k := t (s + 2) - 48) (by omega)
    have d3 := d3 (by rw [e]; decide)
    refine w_br (pc' := 103) (st' := []) (ykc_254 (e := (4, .tableswitch 110 0 3 #[31, 42, 66, 90], 31)) rfl) (by rw [e]; rfl) ?_
    refine w_load (pc' := 104) (v := .ref 170) (m := 1) (ykc_254 (e := (2, .aload_n kF0, 0)) rfl) rfl rfl ?_
    refine w_load (pc' := 105) (v := .int (zn (t (s + 1) - 48))) (m := 1) (ykc_254 (e := (2, .iload_n kF2, 0)) rfl) rfl rfl ?_
    refine w_load (pc' := 106) (v := .ref 170) (m := 1) (ykc_254 (e := (2, .aload_n kF0, 0)) rfl) rfl rfl ?_
    refine w_gf (pc' := 109) (v := .ref 187) (ykc_254 (e := (5, .getfield 80, 0)) rfl) rfl (zsg hS zs_170_32) rfl ?_
    refine w_load (pc' := 110) (v := .int x) (m := 1) (ykc_254 (e := (2, .iload_n kF1, 0)) rfl) rfl rfl ?_
    refine w_ialk (pc' := 111) (k := i) (ykc_254 (e := (5, .iaload, 0)) rfl) d3 (by omega) rfl ?_
    refine w_cv (as := [.ref 170, .int (zn (t (s + 1) - 48)), .int (zn (t (s + 2) - 48))]) (r := []) (ykc_254 (e := (6, .invokevirtual 386, 0)) rfl) rfl rfl rfl rfl (zm_trims1 hS hE.1 hN hv hO) (fun v1533 ph1534 hv => ?_)
    rcases hv with ⟨hbad, rfl, rfl⟩ | ⟨p, f, hp9, hf9, hpP, hf4, rfl, u9⟩
    · have tm1 : (Int32.ofInt (-1)).toInt = -1 := by decide
      show zW n D 254 Q 114 [some (.ref 170), some (.int x), some (.int (zn (t (s + 1) - 48))), none] [.int (Int32.ofInt (-1))] ph
      refine w_zlt (ykc_254 (e := (4, .ifCond .lt 7, 121)) rfl) rfl (fun b1535 => ?_) (fun q => by exfalso; omega)
      refine w_alu (pc' := 122) (st' := [.int (Int32.ofInt 0)]) (ykc_254 (e := (0, .iconst 0, 0)) rfl) rfl rfl ?_
      refine w_ret (v := (some (.int (Int32.ofInt 0)))) (ykc_254 (e := (7, .ireturn, 0)) rfl) zr_z ?_
      rw [hQ, zi0]
      refine ⟨zFr_refl, Or.inr ⟨?_, rfl, hv⟩⟩
      rw [hs]
      unfold zAct
      rw [if_neg (show ¬ t s = 110 by omega)]
      rw [if_neg (show ¬ t s = 102 by omega)]
      rw [if_neg (show ¬ t s = 103 by omega)]
      rw [if_pos e]
      rw [if_neg (by omega)]
    · have ep : p = t (s + 1) - 48 := zn_inj hp9.symm (by omega) (by omega)
      have ef : f = t (s + 2) - 48 := zn_inj hf9.symm (by omega) (by omega)
      subst ep ef
      have tv := znt (k := v (16 + (t (s + 1) - 48))) (by have := (hO.1 _ hpP).2.2.1; omega)
      show zW n D 254 Q 114 [some (.ref 170), some (.int x), some (.int (zn (t (s + 1) - 48))), none] [.int (zn (v (16 + (t (s + 1) - 48))))] ph1534
      refine w_zlt (ykc_254 (e := (4, .ifCond .lt 7, 121)) rfl) rfl (fun q => by exfalso; omega) (fun b1536 => ?_)
      refine w_alu (pc' := 118) (st' := [.int (Int32.ofInt 1)]) (ykc_254 (e := (0, .iconst 1, 0)) rfl) rfl rfl ?_
      refine w_br (pc' := 122) (st' := [.int (Int32.ofInt 1)]) (ykc_254 (e := (4, .goto 4, 122)) rfl) rfl ?_
      refine w_ret (v := (some (.int (Int32.ofInt 1)))) (ykc_254 (e := (7, .ireturn, 0)) rfl) zr_z ?_
      rw [hQ, zi1]
      refine ⟨zFr_st u9 (Or.inl (by simp)), Or.inl ⟨znu v (16 + (t (s + 1) - 48)) (t (s + 2) - 48), ?_, rfl, zNr_u u9 hv⟩⟩
      rw [hs]
      unfold zAct
      rw [if_neg (show ¬ t s = 110 by omega)]
      rw [if_neg (show ¬ t s = 102 by omega)]
      rw [if_neg (show ¬ t s = 103 by omega)]
      rw [if_pos e]
      rw [if_pos ⟨by omega, by omega⟩]
    
  · have q2 : 48 ≤ t (s + 2) ∧ t (s + 2) ≤ 57 := zdi_d (g3 1 (by rw [e]; decide))
    have tq2 := znt (k := t (s + 2) - 48) (by omega)
    have d3 := d3 (by rw [e]; decide)
    have q3 : 48 ≤ t (s + 3) ∧ t (s + 3) ≤ 57 := zdi_d (g3 2 (by rw [e]; decide))
    have tq3 := znt (k := t (s + 3) - 48) (by omega)
    have d4 := d4 (by rw [e]; decide)
    refine w_br (pc' := 123) (st' := []) (ykc_254 (e := (4, .tableswitch 110 0 3 #[31, 42, 66, 90], 31)) rfl) (by rw [e]; rfl) ?_
    refine w_load (pc' := 124) (v := .ref 170) (m := 1) (ykc_254 (e := (2, .aload_n kF0, 0)) rfl) rfl rfl ?_
    refine w_gf (pc' := 127) (v := .ref 187) (ykc_254 (e := (5, .getfield 80, 0)) rfl) rfl (zsg hS zs_170_32) rfl ?_
    refine w_load (pc' := 128) (v := .int x) (m := 1) (ykc_254 (e := (2, .iload_n kF1, 0)) rfl) rfl rfl ?_
    refine w_ialk (pc' := 129) (k := i) (ykc_254 (e := (5, .iaload, 0)) rfl) d3 (by omega) rfl ?_
    refine w_load (pc' := 130) (v := .ref 170) (m := 1) (ykc_254 (e := (2, .aload_n kF0, 0)) rfl) rfl rfl ?_
    refine w_gf (pc' := 133) (v := .int (zn E.1)) (ykc_254 (e := (5, .getfield 24, 0)) rfl) rfl hL0.1 rfl ?_
    refine w_ige (ykc_254 (e := (4, .if_icmp .ge 20, 153)) rfl) rfl (fun b1538 => ?_) (fun b1538 => ?_)
    · refine w_alu (pc' := 154) (st' := [.int (Int32.ofInt 0)]) (ykc_254 (e := (0, .iconst 0, 0)) rfl) rfl rfl ?_
      refine w_store (pc' := 155) (L' := [some (.ref 170), some (.int x), some (.int (zn (t (s + 1) - 48))), some (.int (Int32.ofInt 0))]) (st' := []) (m := 1) (ykc_254 (e := (3, .istore_n kF3, 0)) rfl) rfl rfl ?_
      refine w_load (pc' := 156) (v := .int (Int32.ofInt 0)) (m := 1) (ykc_254 (e := (2, .iload_n kF3, 0)) rfl) rfl rfl ?_
      refine w_zeq (ykc_254 (e := (4, .ifCond .eq 33, 189)) rfl) rfl (fun b1539 => ?_) (fun b1539 => ?_)
      · refine w_alu (pc' := 190) (st' := [.int (Int32.ofInt 0)]) (ykc_254 (e := (0, .iconst 0, 0)) rfl) rfl rfl ?_
        refine w_ret (v := (some (.int (Int32.ofInt 0)))) (ykc_254 (e := (7, .ireturn, 0)) rfl) zr_z ?_
        rw [hQ, zi0]
        refine ⟨zFr_refl, Or.inr ⟨?_, rfl, hv⟩⟩
        rw [hs]
        unfold zAct
        rw [if_neg (show ¬ t s = 110 by omega)]
        rw [if_neg (show ¬ t s = 102 by omega)]
        rw [if_neg (show ¬ t s = 103 by omega)]
        rw [if_neg (show ¬ t s = 98 by omega)]
        rw [if_neg (by omega)]
      · refine w_load (pc' := 160) (v := .ref 170) (m := 1) (ykc_254 (e := (2, .aload_n kF0, 0)) rfl) rfl rfl ?_
        refine w_load (pc' := 161) (v := .int (zn (t (s + 1) - 48))) (m := 1) (ykc_254 (e := (2, .iload_n kF2, 0)) rfl) rfl rfl ?_
        refine w_load (pc' := 162) (v := .ref 170) (m := 1) (ykc_254 (e := (2, .aload_n kF0, 0)) rfl) rfl rfl ?_
        refine w_gf (pc' := 165) (v := .int (zn E.2.1)) (ykc_254 (e := (5, .getfield 27, 0)) rfl) rfl hL0.2.1 rfl ?_
        refine w_load (pc' := 166) (v := .ref 170) (m := 1) (ykc_254 (e := (2, .aload_n kF0, 0)) rfl) rfl rfl ?_
        refine w_gf (pc' := 169) (v := .ref 187) (ykc_254 (e := (5, .getfield 80, 0)) rfl) rfl (zsg hS zs_170_32) rfl ?_
        refine w_load (pc' := 170) (v := .int x) (m := 1) (ykc_254 (e := (2, .iload_n kF1, 0)) rfl) rfl rfl ?_
        refine w_ialk (pc' := 171) (k := i) (ykc_254 (e := (5, .iaload, 0)) rfl) d3 (by omega) rfl ?_
        have m1537 : E.2.1 * (t (s + 2) - 48) ≤ 7 * 9 := Nat.mul_le_mul (by omega) (by omega)
        have e1540 : (zn E.2.1) * (zn (t (s + 2) - 48)) = zn (E.2.1 * (t (s + 2) - 48)) := zn_of (zmulN (by omega) (by omega) (by omega) (by omega))
        have te1540 := znt (k := E.2.1 * (t (s + 2) - 48)) (by omega)
        refine w_alu (pc' := 172) (st' := [.int (zn (E.2.1 * (t (s + 2) - 48))), .int (zn (t (s + 1) - 48)), .ref 170]) (ykc_254 (e := (0, .imul, 0)) rfl) (by rw [← e1540]; rfl) rfl ?_
        refine w_load (pc' := 173) (v := .ref 170) (m := 1) (ykc_254 (e := (2, .aload_n kF0, 0)) rfl) rfl rfl ?_
        refine w_gf (pc' := 176) (v := .ref 188) (ykc_254 (e := (5, .getfield 83, 0)) rfl) rfl (zsg hS zs_170_33) rfl ?_
        refine w_load (pc' := 177) (v := .int x) (m := 1) (ykc_254 (e := (2, .iload_n kF1, 0)) rfl) rfl rfl ?_
        refine w_ialk (pc' := 178) (k := i) (ykc_254 (e := (5, .iaload, 0)) rfl) d4 (by omega) rfl ?_
        have e1541 : (zn (E.2.1 * (t (s + 2) - 48))) + (zn (t (s + 3) - 48)) = zn (E.2.1 * (t (s + 2) - 48) + (t (s + 3) - 48)) := (zaddN (a := E.2.1 * (t (s + 2) - 48)) (b := t (s + 3) - 48) (znt (by omega)) (znt (by omega)) (by omega)) 
        have te1541 := znt (k := E.2.1 * (t (s + 2) - 48) + (t (s + 3) - 48)) (by omega)
        refine w_alu (pc' := 179) (st' := [.int (zn (E.2.1 * (t (s + 2) - 48) + (t (s + 3) - 48))), .int (zn (t (s + 1) - 48)), .ref 170]) (ykc_254 (e := (0, .iadd, 0)) rfl) (by rw [← e1541]; rfl) rfl ?_
        refine w_cv (as := [.ref 170, .int (zn (t (s + 1) - 48)), .int (zn (E.2.1 * (t (s + 2) - 48) + (t (s + 3) - 48)))]) (r := []) (ykc_254 (e := (6, .invokevirtual 389, 0)) rfl) rfl rfl rfl rfl (zm_puts1 hS hE.1 hN hv hO) (fun v1542 ph1543 hv => ?_)
        rcases hv with ⟨hbad, rfl, rfl⟩ | ⟨p, f, hp9, hf9, hpP, hfR, u9, ⟨hsm, rfl⟩ | ⟨hne, rfl⟩⟩
        · have tm1 : (Int32.ofInt (-1)).toInt = -1 := by decide
          have hmm : E.2.1 * (t (s + 2) - 48) + (t (s + 3) - 48) < E.1 * E.2.1 := by
            have := Nat.mul_le_mul_left E.2.1 (show t (s + 2) - 48 + 1 ≤ E.1 by omega)
            rw [Nat.mul_add, Nat.mul_one, Nat.mul_comm E.2.1 E.1] at this
            omega
          show zW n D 254 Q 182 [some (.ref 170), some (.int x), some (.int (zn (t (s + 1) - 48))), some (.int (Int32.ofInt 0))] [.int (Int32.ofInt (-1))] ph
          refine w_zlt (ykc_254 (e := (4, .ifCond .lt 7, 189)) rfl) rfl (fun b1544 => ?_) (fun q => by exfalso; omega)
          refine w_alu (pc' := 190) (st' := [.int (Int32.ofInt 0)]) (ykc_254 (e := (0, .iconst 0, 0)) rfl) rfl rfl ?_
          refine w_ret (v := (some (.int (Int32.ofInt 0)))) (ykc_254 (e := (7, .ireturn, 0)) rfl) zr_z ?_
          rw [hQ, zi0]
          refine ⟨zFr_refl, Or.inr ⟨?_, rfl, hv⟩⟩
          rw [hs]
          unfold zAct
          rw [if_neg (show ¬ t s = 110 by omega)]
          rw [if_neg (show ¬ t s = 102 by omega)]
          rw [if_neg (show ¬ t s = 103 by omega)]
          rw [if_neg (show ¬ t s = 98 by omega)]
          rw [if_neg (fun q => by have q3 := q.2.2.1; omega)]
        · have ep : p = t (s + 1) - 48 := zn_inj hp9.symm (by omega) (by omega)
          have ef : f = E.2.1 * (t (s + 2) - 48) + (t (s + 3) - 48) := zn_inj hf9.symm (by have := zRC49 hR7.2.1 hR7.2.2.2; omega) (by omega)
          subst ep ef
          have tm2 : ((Int8.ofInt (-2)).toInt32).toInt = -2 := by decide
          show zW n D 254 Q 182 [some (.ref 170), some (.int x), some (.int (zn (t (s + 1) - 48))), some (.int (Int32.ofInt 0))] [.int ((Int8.ofInt (-2)).toInt32)] ph1543
          refine w_zlt (ykc_254 (e := (4, .ifCond .lt 7, 189)) rfl) rfl (fun b1545 => ?_) (fun q => by exfalso; omega)
          refine w_alu (pc' := 190) (st' := [.int (Int32.ofInt 0)]) (ykc_254 (e := (0, .iconst 0, 0)) rfl) rfl rfl ?_
          refine w_ret (v := (some (.int (Int32.ofInt 0)))) (ykc_254 (e := (7, .ireturn, 0)) rfl) zr_z ?_
          rw [hQ, zi0]
          have hv2 := zNr_u u9 hv
          rw [znu_id hsm] at hv2
          refine ⟨zFr_st u9 (Or.inl (by simp)), Or.inr ⟨?_, rfl, hv2⟩⟩
          rw [hs]
          unfold zAct
          rw [if_neg (show ¬ t s = 110 by omega)]
          rw [if_neg (show ¬ t s = 102 by omega)]
          rw [if_neg (show ¬ t s = 103 by omega)]
          rw [if_neg (show ¬ t s = 98 by omega)]
          rw [if_neg (fun q => q.2.2.2 hsm)]
        · have ep : p = t (s + 1) - 48 := zn_inj hp9.symm (by omega) (by omega)
          have ef : f = E.2.1 * (t (s + 2) - 48) + (t (s + 3) - 48) := zn_inj hf9.symm (by have := zRC49 hR7.2.1 hR7.2.2.2; omega) (by omega)
          subst ep ef
          have tv := znt (k := v (32 + (t (s + 1) - 48))) (by have := hO.2.1 _ hpP; have := zRC49 hR7.2.1 hR7.2.2.2; omega)
          show zW n D 254 Q 182 [some (.ref 170), some (.int x), some (.int (zn (t (s + 1) - 48))), some (.int (Int32.ofInt 0))] [.int (zn (v (32 + (t (s + 1) - 48))))] ph1543
          refine w_zlt (ykc_254 (e := (4, .ifCond .lt 7, 189)) rfl) rfl (fun q => by exfalso; omega) (fun b1546 => ?_)
          refine w_alu (pc' := 186) (st' := [.int (Int32.ofInt 1)]) (ykc_254 (e := (0, .iconst 1, 0)) rfl) rfl rfl ?_
          refine w_br (pc' := 190) (st' := [.int (Int32.ofInt 1)]) (ykc_254 (e := (4, .goto 4, 190)) rfl) rfl ?_
          refine w_ret (v := (some (.int (Int32.ofInt 1)))) (ykc_254 (e := (7, .ireturn, 0)) rfl) zr_z ?_
          rw [hQ, zi1]
          refine ⟨zFr_st u9 (Or.inl (by simp)), Or.inl ⟨_, ?_, rfl, zNr_u u9 hv⟩⟩
          rw [hs]
          unfold zAct
          rw [if_neg (show ¬ t s = 110 by omega)]
          rw [if_neg (show ¬ t s = 102 by omega)]
          rw [if_neg (show ¬ t s = 103 by omega)]
          rw [if_neg (show ¬ t s = 98 by omega)]
          rw [if_pos ⟨by omega, by omega, by omega, hne⟩]
        
    · refine w_load (pc' := 137) (v := .ref 170) (m := 1) (ykc_254 (e := (2, .aload_n kF0, 0)) rfl) rfl rfl ?_
      refine w_gf (pc' := 140) (v := .ref 188) (ykc_254 (e := (5, .getfield 83, 0)) rfl) rfl (zsg hS zs_170_33) rfl ?_
      refine w_load (pc' := 141) (v := .int x) (m := 1) (ykc_254 (e := (2, .iload_n kF1, 0)) rfl) rfl rfl ?_
      refine w_ialk (pc' := 142) (k := i) (ykc_254 (e := (5, .iaload, 0)) rfl) d4 (by omega) rfl ?_
      refine w_load (pc' := 143) (v := .ref 170) (m := 1) (ykc_254 (e := (2, .aload_n kF0, 0)) rfl) rfl rfl ?_
      refine w_gf (pc' := 146) (v := .int (zn E.2.1)) (ykc_254 (e := (5, .getfield 27, 0)) rfl) rfl hL0.2.1 rfl ?_
      refine w_ige (ykc_254 (e := (4, .if_icmp .ge 7, 153)) rfl) rfl (fun b1547 => ?_) (fun b1547 => ?_)
      · refine w_alu (pc' := 154) (st' := [.int (Int32.ofInt 0)]) (ykc_254 (e := (0, .iconst 0, 0)) rfl) rfl rfl ?_
        refine w_store (pc' := 155) (L' := [some (.ref 170), some (.int x), some (.int (zn (t (s + 1) - 48))), some (.int (Int32.ofInt 0))]) (st' := []) (m := 1) (ykc_254 (e := (3, .istore_n kF3, 0)) rfl) rfl rfl ?_
        refine w_load (pc' := 156) (v := .int (Int32.ofInt 0)) (m := 1) (ykc_254 (e := (2, .iload_n kF3, 0)) rfl) rfl rfl ?_
        refine w_zeq (ykc_254 (e := (4, .ifCond .eq 33, 189)) rfl) rfl (fun b1548 => ?_) (fun b1548 => ?_)
        · refine w_alu (pc' := 190) (st' := [.int (Int32.ofInt 0)]) (ykc_254 (e := (0, .iconst 0, 0)) rfl) rfl rfl ?_
          refine w_ret (v := (some (.int (Int32.ofInt 0)))) (ykc_254 (e := (7, .ireturn, 0)) rfl) zr_z ?_
          rw [hQ, zi0]
          refine ⟨zFr_refl, Or.inr ⟨?_, rfl, hv⟩⟩
          rw [hs]
          unfold zAct
          rw [if_neg (show ¬ t s = 110 by omega)]
          rw [if_neg (show ¬ t s = 102 by omega)]
          rw [if_neg (show ¬ t s = 103 by omega)]
          rw [if_neg (show ¬ t s = 98 by omega)]
          rw [if_neg (by omega)]
        · refine w_load (pc' := 160) (v := .ref 170) (m := 1) (ykc_254 (e := (2, .aload_n kF0, 0)) rfl) rfl rfl ?_
          refine w_load (pc' := 161) (v := .int (zn (t (s + 1) - 48))) (m := 1) (ykc_254 (e := (2, .iload_n kF2, 0)) rfl) rfl rfl ?_
          refine w_load (pc' := 162) (v := .ref 170) (m := 1) (ykc_254 (e := (2, .aload_n kF0, 0)) rfl) rfl rfl ?_
          refine w_gf (pc' := 165) (v := .int (zn E.2.1)) (ykc_254 (e := (5, .getfield 27, 0)) rfl) rfl hL0.2.1 rfl ?_
          refine w_load (pc' := 166) (v := .ref 170) (m := 1) (ykc_254 (e := (2, .aload_n kF0, 0)) rfl) rfl rfl ?_
          refine w_gf (pc' := 169) (v := .ref 187) (ykc_254 (e := (5, .getfield 80, 0)) rfl) rfl (zsg hS zs_170_32) rfl ?_
          refine w_load (pc' := 170) (v := .int x) (m := 1) (ykc_254 (e := (2, .iload_n kF1, 0)) rfl) rfl rfl ?_
          refine w_ialk (pc' := 171) (k := i) (ykc_254 (e := (5, .iaload, 0)) rfl) d3 (by omega) rfl ?_
          have m1537 : E.2.1 * (t (s + 2) - 48) ≤ 7 * 9 := Nat.mul_le_mul (by omega) (by omega)
          have e1549 : (zn E.2.1) * (zn (t (s + 2) - 48)) = zn (E.2.1 * (t (s + 2) - 48)) := zn_of (zmulN (by omega) (by omega) (by omega) (by omega))
          have te1549 := znt (k := E.2.1 * (t (s + 2) - 48)) (by omega)
          refine w_alu (pc' := 172) (st' := [.int (zn (E.2.1 * (t (s + 2) - 48))), .int (zn (t (s + 1) - 48)), .ref 170]) (ykc_254 (e := (0, .imul, 0)) rfl) (by rw [← e1549]; rfl) rfl ?_
          refine w_load (pc' := 173) (v := .ref 170) (m := 1) (ykc_254 (e := (2, .aload_n kF0, 0)) rfl) rfl rfl ?_
          refine w_gf (pc' := 176) (v := .ref 188) (ykc_254 (e := (5, .getfield 83, 0)) rfl) rfl (zsg hS zs_170_33) rfl ?_
          refine w_load (pc' := 177) (v := .int x) (m := 1) (ykc_254 (e := (2, .iload_n kF1, 0)) rfl) rfl rfl ?_
          refine w_ialk (pc' := 178) (k := i) (ykc_254 (e := (5, .iaload, 0)) rfl) d4 (by omega) rfl ?_
          have e1550 : (zn (E.2.1 * (t (s + 2) - 48))) + (zn (t (s + 3) - 48)) = zn (E.2.1 * (t (s + 2) - 48) + (t (s + 3) - 48)) := (zaddN (a := E.2.1 * (t (s + 2) - 48)) (b := t (s + 3) - 48) (znt (by omega)) (znt (by omega)) (by omega)) 
          have te1550 := znt (k := E.2.1 * (t (s + 2) - 48) + (t (s + 3) - 48)) (by omega)
          refine w_alu (pc' := 179) (st' := [.int (zn (E.2.1 * (t (s + 2) - 48) + (t (s + 3) - 48))), .int (zn (t (s + 1) - 48)), .ref 170]) (ykc_254 (e := (0, .iadd, 0)) rfl) (by rw [← e1550]; rfl) rfl ?_
          refine w_cv (as := [.ref 170, .int (zn (t (s + 1) - 48)), .int (zn (E.2.1 * (t (s + 2) - 48) + (t (s + 3) - 48)))]) (r := []) (ykc_254 (e := (6, .invokevirtual 389, 0)) rfl) rfl rfl rfl rfl (zm_puts1 hS hE.1 hN hv hO) (fun v1551 ph1552 hv => ?_)
          rcases hv with ⟨hbad, rfl, rfl⟩ | ⟨p, f, hp9, hf9, hpP, hfR, u9, ⟨hsm, rfl⟩ | ⟨hne, rfl⟩⟩
          · have tm1 : (Int32.ofInt (-1)).toInt = -1 := by decide
            have hmm : E.2.1 * (t (s + 2) - 48) + (t (s + 3) - 48) < E.1 * E.2.1 := by
              have := Nat.mul_le_mul_left E.2.1 (show t (s + 2) - 48 + 1 ≤ E.1 by omega)
              rw [Nat.mul_add, Nat.mul_one, Nat.mul_comm E.2.1 E.1] at this
              omega
            show zW n D 254 Q 182 [some (.ref 170), some (.int x), some (.int (zn (t (s + 1) - 48))), some (.int (Int32.ofInt 0))] [.int (Int32.ofInt (-1))] ph
            refine w_zlt (ykc_254 (e := (4, .ifCond .lt 7, 189)) rfl) rfl (fun b1553 => ?_) (fun q => by exfalso; omega)
            refine w_alu (pc' := 190) (st' := [.int (Int32.ofInt 0)]) (ykc_254 (e := (0, .iconst 0, 0)) rfl) rfl rfl ?_
            refine w_ret (v := (some (.int (Int32.ofInt 0)))) (ykc_254 (e := (7, .ireturn, 0)) rfl) zr_z ?_
            rw [hQ, zi0]
            refine ⟨zFr_refl, Or.inr ⟨?_, rfl, hv⟩⟩
            rw [hs]
            unfold zAct
            rw [if_neg (show ¬ t s = 110 by omega)]
            rw [if_neg (show ¬ t s = 102 by omega)]
            rw [if_neg (show ¬ t s = 103 by omega)]
            rw [if_neg (show ¬ t s = 98 by omega)]
            rw [if_neg (fun q => by have q3 := q.2.2.1; omega)]
          · have ep : p = t (s + 1) - 48 := zn_inj hp9.symm (by omega) (by omega)
            have ef : f = E.2.1 * (t (s + 2) - 48) + (t (s + 3) - 48) := zn_inj hf9.symm (by have := zRC49 hR7.2.1 hR7.2.2.2; omega) (by omega)
            subst ep ef
            have tm2 : ((Int8.ofInt (-2)).toInt32).toInt = -2 := by decide
            show zW n D 254 Q 182 [some (.ref 170), some (.int x), some (.int (zn (t (s + 1) - 48))), some (.int (Int32.ofInt 0))] [.int ((Int8.ofInt (-2)).toInt32)] ph1552
            refine w_zlt (ykc_254 (e := (4, .ifCond .lt 7, 189)) rfl) rfl (fun b1554 => ?_) (fun q => by exfalso; omega)
            refine w_alu (pc' := 190) (st' := [.int (Int32.ofInt 0)]) (ykc_254 (e := (0, .iconst 0, 0)) rfl) rfl rfl ?_
            refine w_ret (v := (some (.int (Int32.ofInt 0)))) (ykc_254 (e := (7, .ireturn, 0)) rfl) zr_z ?_
            rw [hQ, zi0]
            have hv2 := zNr_u u9 hv
            rw [znu_id hsm] at hv2
            refine ⟨zFr_st u9 (Or.inl (by simp)), Or.inr ⟨?_, rfl, hv2⟩⟩
            rw [hs]
            unfold zAct
            rw [if_neg (show ¬ t s = 110 by omega)]
            rw [if_neg (show ¬ t s = 102 by omega)]
            rw [if_neg (show ¬ t s = 103 by omega)]
            rw [if_neg (show ¬ t s = 98 by omega)]
            rw [if_neg (fun q => q.2.2.2 hsm)]
          · have ep : p = t (s + 1) - 48 := zn_inj hp9.symm (by omega) (by omega)
            have ef : f = E.2.1 * (t (s + 2) - 48) + (t (s + 3) - 48) := zn_inj hf9.symm (by have := zRC49 hR7.2.1 hR7.2.2.2; omega) (by omega)
            subst ep ef
            have tv := znt (k := v (32 + (t (s + 1) - 48))) (by have := hO.2.1 _ hpP; have := zRC49 hR7.2.1 hR7.2.2.2; omega)
            show zW n D 254 Q 182 [some (.ref 170), some (.int x), some (.int (zn (t (s + 1) - 48))), some (.int (Int32.ofInt 0))] [.int (zn (v (32 + (t (s + 1) - 48))))] ph1552
            refine w_zlt (ykc_254 (e := (4, .ifCond .lt 7, 189)) rfl) rfl (fun q => by exfalso; omega) (fun b1555 => ?_)
            refine w_alu (pc' := 186) (st' := [.int (Int32.ofInt 1)]) (ykc_254 (e := (0, .iconst 1, 0)) rfl) rfl rfl ?_
            refine w_br (pc' := 190) (st' := [.int (Int32.ofInt 1)]) (ykc_254 (e := (4, .goto 4, 190)) rfl) rfl ?_
            refine w_ret (v := (some (.int (Int32.ofInt 1)))) (ykc_254 (e := (7, .ireturn, 0)) rfl) zr_z ?_
            rw [hQ, zi1]
            refine ⟨zFr_st u9 (Or.inl (by simp)), Or.inl ⟨_, ?_, rfl, zNr_u u9 hv⟩⟩
            rw [hs]
            unfold zAct
            rw [if_neg (show ¬ t s = 110 by omega)]
            rw [if_neg (show ¬ t s = 102 by omega)]
            rw [if_neg (show ¬ t s = 103 by omega)]
            rw [if_neg (show ¬ t s = 98 by omega)]
            rw [if_pos ⟨by omega, by omega, by omega, hne⟩]
          
      · refine w_alu (pc' := 150) (st' := [.int (Int32.ofInt 1)]) (ykc_254 (e := (0, .iconst 1, 0)) rfl) rfl rfl ?_
        refine w_br (pc' := 154) (st' := [.int (Int32.ofInt 1)]) (ykc_254 (e := (4, .goto 4, 154)) rfl) rfl ?_
        refine w_store (pc' := 155) (L' := [some (.ref 170), some (.int x), some (.int (zn (t (s + 1) - 48))), some (.int (Int32.ofInt 1))]) (st' := []) (m := 1) (ykc_254 (e := (3, .istore_n kF3, 0)) rfl) rfl rfl ?_
        refine w_load (pc' := 156) (v := .int (Int32.ofInt 1)) (m := 1) (ykc_254 (e := (2, .iload_n kF3, 0)) rfl) rfl rfl ?_
        refine w_zeq (ykc_254 (e := (4, .ifCond .eq 33, 189)) rfl) rfl (fun b1556 => ?_) (fun b1556 => ?_)
        · refine w_alu (pc' := 190) (st' := [.int (Int32.ofInt 0)]) (ykc_254 (e := (0, .iconst 0, 0)) rfl) rfl rfl ?_
          refine w_ret (v := (some (.int (Int32.ofInt 0)))) (ykc_254 (e := (7, .ireturn, 0)) rfl) zr_z ?_
          rw [hQ, zi0]
          refine ⟨zFr_refl, Or.inr ⟨?_, rfl, hv⟩⟩
          rw [hs]
          unfold zAct
          rw [if_neg (show ¬ t s = 110 by omega)]
          rw [if_neg (show ¬ t s = 102 by omega)]
          rw [if_neg (show ¬ t s = 103 by omega)]
          rw [if_neg (show ¬ t s = 98 by omega)]
          rw [if_neg (by omega)]
        · refine w_load (pc' := 160) (v := .ref 170) (m := 1) (ykc_254 (e := (2, .aload_n kF0, 0)) rfl) rfl rfl ?_
          refine w_load (pc' := 161) (v := .int (zn (t (s + 1) - 48))) (m := 1) (ykc_254 (e := (2, .iload_n kF2, 0)) rfl) rfl rfl ?_
          refine w_load (pc' := 162) (v := .ref 170) (m := 1) (ykc_254 (e := (2, .aload_n kF0, 0)) rfl) rfl rfl ?_
          refine w_gf (pc' := 165) (v := .int (zn E.2.1)) (ykc_254 (e := (5, .getfield 27, 0)) rfl) rfl hL0.2.1 rfl ?_
          refine w_load (pc' := 166) (v := .ref 170) (m := 1) (ykc_254 (e := (2, .aload_n kF0, 0)) rfl) rfl rfl ?_
          refine w_gf (pc' := 169) (v := .ref 187) (ykc_254 (e := (5, .getfield 80, 0)) rfl) rfl (zsg hS zs_170_32) rfl ?_
          refine w_load (pc' := 170) (v := .int x) (m := 1) (ykc_254 (e := (2, .iload_n kF1, 0)) rfl) rfl rfl ?_
          refine w_ialk (pc' := 171) (k := i) (ykc_254 (e := (5, .iaload, 0)) rfl) d3 (by omega) rfl ?_
          have m1537 : E.2.1 * (t (s + 2) - 48) ≤ 7 * 9 := Nat.mul_le_mul (by omega) (by omega)
          have e1557 : (zn E.2.1) * (zn (t (s + 2) - 48)) = zn (E.2.1 * (t (s + 2) - 48)) := zn_of (zmulN (by omega) (by omega) (by omega) (by omega))
          have te1557 := znt (k := E.2.1 * (t (s + 2) - 48)) (by omega)
          refine w_alu (pc' := 172) (st' := [.int (zn (E.2.1 * (t (s + 2) - 48))), .int (zn (t (s + 1) - 48)), .ref 170]) (ykc_254 (e := (0, .imul, 0)) rfl) (by rw [← e1557]; rfl) rfl ?_
          refine w_load (pc' := 173) (v := .ref 170) (m := 1) (ykc_254 (e := (2, .aload_n kF0, 0)) rfl) rfl rfl ?_
          refine w_gf (pc' := 176) (v := .ref 188) (ykc_254 (e := (5, .getfield 83, 0)) rfl) rfl (zsg hS zs_170_33) rfl ?_
          refine w_load (pc' := 177) (v := .int x) (m := 1) (ykc_254 (e := (2, .iload_n kF1, 0)) rfl) rfl rfl ?_
          refine w_ialk (pc' := 178) (k := i) (ykc_254 (e := (5, .iaload, 0)) rfl) d4 (by omega) rfl ?_
          have e1558 : (zn (E.2.1 * (t (s + 2) - 48))) + (zn (t (s + 3) - 48)) = zn (E.2.1 * (t (s + 2) - 48) + (t (s + 3) - 48)) := (zaddN (a := E.2.1 * (t (s + 2) - 48)) (b := t (s + 3) - 48) (znt (by omega)) (znt (by omega)) (by omega)) 
          have te1558 := znt (k := E.2.1 * (t (s + 2) - 48) + (t (s + 3) - 48)) (by omega)
          refine w_alu (pc' := 179) (st' := [.int (zn (E.2.1 * (t (s + 2) - 48) + (t (s + 3) - 48))), .int (zn (t (s + 1) - 48)), .ref 170]) (ykc_254 (e := (0, .iadd, 0)) rfl) (by rw [← e1558]; rfl) rfl ?_
          refine w_cv (as := [.ref 170, .int (zn (t (s + 1) - 48)), .int (zn (E.2.1 * (t (s + 2) - 48) + (t (s + 3) - 48)))]) (r := []) (ykc_254 (e := (6, .invokevirtual 389, 0)) rfl) rfl rfl rfl rfl (zm_puts1 hS hE.1 hN hv hO) (fun v1559 ph1560 hv => ?_)
          rcases hv with ⟨hbad, rfl, rfl⟩ | ⟨p, f, hp9, hf9, hpP, hfR, u9, ⟨hsm, rfl⟩ | ⟨hne, rfl⟩⟩
          · have tm1 : (Int32.ofInt (-1)).toInt = -1 := by decide
            have hmm : E.2.1 * (t (s + 2) - 48) + (t (s + 3) - 48) < E.1 * E.2.1 := by
              have := Nat.mul_le_mul_left E.2.1 (show t (s + 2) - 48 + 1 ≤ E.1 by omega)
              rw [Nat.mul_add, Nat.mul_one, Nat.mul_comm E.2.1 E.1] at this
              omega
            show zW n D 254 Q 182 [some (.ref 170), some (.int x), some (.int (zn (t (s + 1) - 48))), some (.int (Int32.ofInt 1))] [.int (Int32.ofInt (-1))] ph
            refine w_zlt (ykc_254 (e := (4, .ifCond .lt 7, 189)) rfl) rfl (fun b1561 => ?_) (fun q => by exfalso; omega)
            refine w_alu (pc' := 190) (st' := [.int (Int32.ofInt 0)]) (ykc_254 (e := (0, .iconst 0, 0)) rfl) rfl rfl ?_
            refine w_ret (v := (some (.int (Int32.ofInt 0)))) (ykc_254 (e := (7, .ireturn, 0)) rfl) zr_z ?_
            rw [hQ, zi0]
            refine ⟨zFr_refl, Or.inr ⟨?_, rfl, hv⟩⟩
            rw [hs]
            unfold zAct
            rw [if_neg (show ¬ t s = 110 by omega)]
            rw [if_neg (show ¬ t s = 102 by omega)]
            rw [if_neg (show ¬ t s = 103 by omega)]
            rw [if_neg (show ¬ t s = 98 by omega)]
            rw [if_neg (fun q => by have q3 := q.2.2.1; omega)]
          · have ep : p = t (s + 1) - 48 := zn_inj hp9.symm (by omega) (by omega)
            have ef : f = E.2.1 * (t (s + 2) - 48) + (t (s + 3) - 48) := zn_inj hf9.symm (by have := zRC49 hR7.2.1 hR7.2.2.2; omega) (by omega)
            subst ep ef
            have tm2 : ((Int8.ofInt (-2)).toInt32).toInt = -2 := by decide
            show zW n D 254 Q 182 [some (.ref 170), some (.int x), some (.int (zn (t (s + 1) - 48))), some (.int (Int32.ofInt 1))] [.int ((Int8.ofInt (-2)).toInt32)] ph1560
            refine w_zlt (ykc_254 (e := (4, .ifCond .lt 7, 189)) rfl) rfl (fun b1562 => ?_) (fun q => by exfalso; omega)
            refine w_alu (pc' := 190) (st' := [.int (Int32.ofInt 0)]) (ykc_254 (e := (0, .iconst 0, 0)) rfl) rfl rfl ?_
            refine w_ret (v := (some (.int (Int32.ofInt 0)))) (ykc_254 (e := (7, .ireturn, 0)) rfl) zr_z ?_
            rw [hQ, zi0]
            have hv2 := zNr_u u9 hv
            rw [znu_id hsm] at hv2
            refine ⟨zFr_st u9 (Or.inl (by simp)), Or.inr ⟨?_, rfl, hv2⟩⟩
            rw [hs]
            unfold zAct
            rw [if_neg (show ¬ t s = 110 by omega)]
            rw [if_neg (show ¬ t s = 102 by omega)]
            rw [if_neg (show ¬ t s = 103 by omega)]
            rw [if_neg (show ¬ t s = 98 by omega)]
            rw [if_neg (fun q => q.2.2.2 hsm)]
          · have ep : p = t (s + 1) - 48 := zn_inj hp9.symm (by omega) (by omega)
            have ef : f = E.2.1 * (t (s + 2) - 48) + (t (s + 3) - 48) := zn_inj hf9.symm (by have := zRC49 hR7.2.1 hR7.2.2.2; omega) (by omega)
            subst ep ef
            have tv := znt (k := v (32 + (t (s + 1) - 48))) (by have := hO.2.1 _ hpP; have := zRC49 hR7.2.1 hR7.2.2.2; omega)
            show zW n D 254 Q 182 [some (.ref 170), some (.int x), some (.int (zn (t (s + 1) - 48))), some (.int (Int32.ofInt 1))] [.int (zn (v (32 + (t (s + 1) - 48))))] ph1560
            refine w_zlt (ykc_254 (e := (4, .ifCond .lt 7, 189)) rfl) rfl (fun q => by exfalso; omega) (fun b1563 => ?_)
            refine w_alu (pc' := 186) (st' := [.int (Int32.ofInt 1)]) (ykc_254 (e := (0, .iconst 1, 0)) rfl) rfl rfl ?_
            refine w_br (pc' := 190) (st' := [.int (Int32.ofInt 1)]) (ykc_254 (e := (4, .goto 4, 190)) rfl) rfl ?_
            refine w_ret (v := (some (.int (Int32.ofInt 1)))) (ykc_254 (e := (7, .ireturn, 0)) rfl) zr_z ?_
            rw [hQ, zi1]
            refine ⟨zFr_st u9 (Or.inl (by simp)), Or.inl ⟨_, ?_, rfl, zNr_u u9 hv⟩⟩
            rw [hs]
            unfold zAct
            rw [if_neg (show ¬ t s = 110 by omega)]
            rw [if_neg (show ¬ t s = 102 by omega)]
            rw [if_neg (show ¬ t s = 103 by omega)]
            rw [if_neg (show ¬ t s = 98 by omega)]
            rw [if_pos ⟨by omega, by omega, by omega, hne⟩]
          
  
theorem zc_plDig {ph : pm_H} {k i j : Nat} {x z : Int32} (hS : zSh ph) (hx : x.toInt = (i : Int)) (hz : z.toInt = (j : Int)) (hk : zc ph 157 2 = some (.int (zn k))) (h30 : k ≤ 30) (hi : i < k) (hj : j < 3) : zM 64 [.ref 157, .int x, .int z] ph (fun v0 q => ph = q ∧ ∃ y : Int32, v0 = some (.int y) ∧ zc ph 159 (3 * i + j) = some (.int y)) := by
  obtain ⟨Q, hQ⟩ : ∃ Q : Option Value → pm_H → Prop, Q = (fun v0 q => ph = q ∧ ∃ y : Int32, v0 = some (.int y) ∧ zc ph 159 (3 * i + j) = some (.int y)) := ⟨_, rfl⟩
  rw [← hQ]
  refine zM_mk fun n D => ?_
  show zW n D 64 Q 0 [some (.ref 157), some (.int x), some (.int z), none] [] ph
  have c_0 : ((Int8.ofInt 30).toInt32).toInt = 30 := by decide
  have c_1 : (Int32.ofInt (-1)).toInt = -1 := by decide
  have c_2 : (Int32.ofInt 0).toInt = 0 := by decide
  have c_3 : (Int32.ofInt 1).toInt = 1 := by decide
  have c_4 : (Int32.ofInt 3).toInt = 3 := by decide
  have tk := znt (k := k) (by omega)
  refine w_load (pc' := 1) (v := .int x) (m := 1) (ykc_64 (e := (2, .iload_n kF1, 0)) rfl) rfl rfl ?_
  refine w_zlt (ykc_64 (e := (4, .ifCond .lt 30, 31)) rfl) rfl (fun q => by exfalso; omega) (fun b1564 => ?_)
  refine w_load (pc' := 5) (v := .int x) (m := 1) (ykc_64 (e := (2, .iload_n kF1, 0)) rfl) rfl rfl ?_
  refine w_load (pc' := 6) (v := .ref 157) (m := 1) (ykc_64 (e := (2, .aload_n kF0, 0)) rfl) rfl rfl ?_
  refine w_gf (pc' := 9) (v := .int (zn k)) (ykc_64 (e := (5, .getfield 18, 0)) rfl) rfl hk rfl ?_
  refine w_ige (ykc_64 (e := (4, .if_icmp .ge 22, 31)) rfl) rfl (fun q => by exfalso; omega) (fun b1565 => ?_)
  refine w_load (pc' := 13) (v := .int x) (m := 1) (ykc_64 (e := (2, .iload_n kF1, 0)) rfl) rfl rfl ?_
  refine w_push (pc' := 15) (v := .int ((Int8.ofInt 30).toInt32)) (m := 2) (ykc_64 (e := (1, .bipush 30, 0)) rfl) rfl rfl ?_
  refine w_ige (ykc_64 (e := (4, .if_icmp .ge 16, 31)) rfl) rfl (fun q => by exfalso; omega) (fun b1566 => ?_)
  refine w_load (pc' := 19) (v := .int z) (m := 1) (ykc_64 (e := (2, .iload_n kF2, 0)) rfl) rfl rfl ?_
  refine w_zlt (ykc_64 (e := (4, .ifCond .lt 12, 31)) rfl) rfl (fun q => by exfalso; omega) (fun b1567 => ?_)
  refine w_load (pc' := 23) (v := .int z) (m := 1) (ykc_64 (e := (2, .iload_n kF2, 0)) rfl) rfl rfl ?_
  refine w_alu (pc' := 24) (st' := [.int (Int32.ofInt 3), .int z]) (ykc_64 (e := (0, .iconst 3, 0)) rfl) rfl rfl ?_
  refine w_ige (ykc_64 (e := (4, .if_icmp .ge 7, 31)) rfl) rfl (fun q => by exfalso; omega) (fun b1568 => ?_)
  refine w_alu (pc' := 28) (st' := [.int (Int32.ofInt 1)]) (ykc_64 (e := (0, .iconst 1, 0)) rfl) rfl rfl ?_
  refine w_br (pc' := 32) (st' := [.int (Int32.ofInt 1)]) (ykc_64 (e := (4, .goto 4, 32)) rfl) rfl ?_
  refine w_store (pc' := 33) (L' := [some (.ref 157), some (.int x), some (.int z), some (.int (Int32.ofInt 1))]) (st' := []) (m := 1) (ykc_64 (e := (3, .istore_n kF3, 0)) rfl) rfl rfl ?_
  refine w_load (pc' := 34) (v := .int (Int32.ofInt 1)) (m := 1) (ykc_64 (e := (2, .iload_n kF3, 0)) rfl) rfl rfl ?_
  refine w_zeq (ykc_64 (e := (4, .ifCond .eq 16, 50)) rfl) rfl (fun q => absurd q (by decide)) (fun b1569 => ?_)
  refine w_load (pc' := 38) (v := .ref 157) (m := 1) (ykc_64 (e := (2, .aload_n kF0, 0)) rfl) rfl rfl ?_
  refine w_gf (pc' := 41) (v := .ref 159) (ykc_64 (e := (5, .getfield 15, 0)) rfl) rfl (zsg hS zs_157_1) rfl ?_
  refine w_load (pc' := 42) (v := .int x) (m := 1) (ykc_64 (e := (2, .iload_n kF1, 0)) rfl) rfl rfl ?_
  refine w_alu (pc' := 43) (st' := [.int (Int32.ofInt 3), .int x, .ref 159]) (ykc_64 (e := (0, .iconst 3, 0)) rfl) rfl rfl ?_
  have e1570 : x * (Int32.ofInt 3) = zn (3 * i) := zn_of ((zmulN (a := i) (b := 3) (by omega) (by decide) (by omega) (by decide)).trans (by omega))
  have te1570 := znt (k := 3 * i) (by omega)
  refine w_alu (pc' := 44) (st' := [.int (zn (3 * i)), .ref 159]) (ykc_64 (e := (0, .imul, 0)) rfl) (by rw [← e1570]; rfl) rfl ?_
  refine w_load (pc' := 45) (v := .int z) (m := 1) (ykc_64 (e := (2, .iload_n kF2, 0)) rfl) rfl rfl ?_
  have e1571 : (zn (3 * i)) + z = zn (3 * i + j) := zn_of (by have h8 := ti_add (x := (zn (3 * i))) (y := z) (by omega) (by omega); omega)
  have te1571 := znt (k := 3 * i + j) (by omega)
  refine w_alu (pc' := 46) (st' := [.int (zn (3 * i + j)), .ref 159]) (ykc_64 (e := (0, .iadd, 0)) rfl) (by rw [← e1571]; rfl) rfl ?_
  refine w_ial (pc' := 47) (k := 3 * i + j) (ykc_64 (e := (5, .iaload, 0)) rfl) rfl (by omega) rfl (fun y9 g_y9 => ?_)
  refine w_br (pc' := 51) (st' := [.int y9]) (ykc_64 (e := (4, .goto 4, 51)) rfl) rfl ?_
  refine w_ret (v := (some (.int y9))) (ykc_64 (e := (7, .ireturn, 0)) rfl) (zr_v rfl) ?_
  rw [hQ]
  exact ⟨rfl, y9, rfl, g_y9⟩
theorem zc_act {ph : pm_H} {E : zEn} {F P G b k i : Nat} {v t : Nat → Nat} {x : Int32} (hS : zSh ph) (hE : zCe ph E F) (ht : zCt ph 25 P G v) (hO : zOk E.1 E.2.1 P G v) (hr : zc ph 10 1 = some (.ref F)) (hc : zCc ph E.1 E.2.1 E.2.2.1) (hh : v 40 < 999000) (hk : zc ph 157 2 = some (.int (zn k))) (h30 : k ≤ 30) (hD : zDd ph t k 3) (hg : zDok b t k) (hx : x.toInt = (i : Int)) (hi : i < k) : zM 141 [.ref 0, .int x] ph (fun v0 q => zFr [8, 9, 15, 20, 22, 23, 24, 26, 27, 28, 29, 30] [(5, 4), (25, 2)] ph q ∧ ∃ y : Int32, v0 = some (.int y) ∧ ((∃ v2, zAct E P G v t (zDp t i) = some v2 ∧ 0 ≤ y.toInt ∧ zCt q 25 P G v2 ∧ zCc q E.1 E.2.1 E.2.2.1) ∨ (zAct E P G v t (zDp t i) = none ∧ y.toInt < 0 ∧ zCt q 25 P G v ∧ zCc q E.1 E.2.1 E.2.2.1))) := by
  obtain ⟨Q, hQ⟩ : ∃ Q : Option Value → pm_H → Prop, Q = (fun v0 q => zFr [8, 9, 15, 20, 22, 23, 24, 26, 27, 28, 29, 30] [(5, 4), (25, 2)] ph q ∧ ∃ y : Int32, v0 = some (.int y) ∧ ((∃ v2, zAct E P G v t (zDp t i) = some v2 ∧ 0 ≤ y.toInt ∧ zCt q 25 P G v2 ∧ zCc q E.1 E.2.1 E.2.2.1) ∨ (zAct E P G v t (zDp t i) = none ∧ y.toInt < 0 ∧ zCt q 25 P G v ∧ zCc q E.1 E.2.1 E.2.2.1))) := ⟨_, rfl⟩
  rw [← hQ]
  refine zM_mk fun n D => ?_
  show zW n D 141 Q 0 [some (.ref 0), some (.int x), none, none] [] ph
  have c_0 : (Int32.ofInt (-1)).toInt = -1 := by decide
  have c_1 : (Int32.ofInt 0).toInt = 0 := by decide
  have c_2 : (Int32.ofInt 1).toInt = 1 := by decide
  have c_3 : (Int32.ofInt 2).toInt = 2 := by decide
  have hx9 := x32_hi x
  have hL0 : zCl ph E.1 E.2.1 E.2.2.1 := hE.1
  have hd0 : zSd ph 25 P G v := ht.2
  obtain ⟨g1, g2, g3⟩ := hg i hi
  have dk := hD.1 i hi
  have dd := hD.2 i
  obtain ⟨s, hs⟩ : ∃ s, zDp t i = s := ⟨_, rfl⟩
  rw [hs] at dk dd g1 g2 g3
  have hP8 : P ≤ 8 := hd0.2.1
  have hG8 : G ≤ 8 := hd0.2.2.2.1
  have hR7 : 3 ≤ E.1 ∧ E.1 ≤ 7 ∧ 3 ≤ E.2.1 ∧ E.2.1 ≤ 7 := ⟨hL0.2.2.2.2.2.1, hL0.2.2.2.2.2.2.1, hL0.2.2.2.2.2.2.2.1, hL0.2.2.2.2.2.2.2.2⟩
  have q1 := zdi_d (g3 0 (by omega))
  rw [Nat.add_zero] at q1
  have dd0 := dd 0 hi (by omega) (Or.inr (by decide))
  have tq1 := znt (k := t (s + 1) - 48) (by omega)
  refine w_load (pc' := 1) (v := .ref 0) (m := 1) (ykc_141 (e := (2, .aload_n kF0, 0)) rfl) rfl rfl ?_
  refine w_gf (pc' := 4) (v := .ref 157) (ykc_141 (e := (5, .getfield 69, 0)) rfl) rfl (zsg hS zs_0_9) rfl ?_
  refine w_load (pc' := 5) (v := .int x) (m := 1) (ykc_141 (e := (2, .iload_n kF1, 0)) rfl) rfl rfl ?_
  refine w_alu (pc' := 6) (st' := [.int (Int32.ofInt 0), .int x, .ref 157]) (ykc_141 (e := (0, .iconst 0, 0)) rfl) rfl rfl ?_
  refine w_cv (as := [.ref 157, .int x, .int (Int32.ofInt 0)]) (r := []) (ykc_141 (e := (6, .invokevirtual 289, 0)) rfl) rfl rfl rfl rfl (zc_plDig (k := k) (i := i) (j := 0) hS hx (by decide) hk h30 hi (by decide)) (fun v1572 ph1573 hv => ?_)
  rcases hv with ⟨rfl, y0, rfl, hy0⟩
  · have ey0 : y0 = zn (t (s + 1) - 48) := by
      have := hy0.symm.trans dd0
      cases this
      rfl
    subst ey0
    show zW n D 141 Q 9 [some (.ref 0), some (.int x), none, none] [.int (zn (t (s + 1) - 48))] ph
    refine w_store (pc' := 10) (L' := [some (.ref 0), some (.int x), some (.int (zn (t (s + 1) - 48))), none]) (st' := []) (m := 1) (ykc_141 (e := (3, .istore_n kF2, 0)) rfl) rfl rfl ?_
    refine w_load (pc' := 11) (v := .ref 0) (m := 1) (ykc_141 (e := (2, .aload_n kF0, 0)) rfl) rfl rfl ?_
    refine w_gf (pc' := 14) (v := .ref 157) (ykc_141 (e := (5, .getfield 69, 0)) rfl) rfl (zsg hS zs_0_9) rfl ?_
    refine w_load (pc' := 15) (v := .int x) (m := 1) (ykc_141 (e := (2, .iload_n kF1, 0)) rfl) rfl rfl ?_
    refine w_alu (pc' := 16) (st' := [.int (Int32.ofInt 1), .int x, .ref 157]) (ykc_141 (e := (0, .iconst 1, 0)) rfl) rfl rfl ?_
    refine w_cv (as := [.ref 157, .int x, .int (Int32.ofInt 1)]) (r := []) (ykc_141 (e := (6, .invokevirtual 289, 0)) rfl) rfl rfl rfl rfl (zc_plDig (k := k) (i := i) (j := 1) hS hx (by decide) hk h30 hi (by decide)) (fun v1574 ph1575 hv => ?_)
    rcases hv with ⟨rfl, y1, rfl, hy1⟩
    · show zW n D 141 Q 19 [some (.ref 0), some (.int x), some (.int (zn (t (s + 1) - 48))), none] [.int y1] ph
      refine w_store (pc' := 20) (L' := [some (.ref 0), some (.int x), some (.int (zn (t (s + 1) - 48))), some (.int y1)]) (st' := []) (m := 1) (ykc_141 (e := (3, .istore_n kF3, 0)) rfl) rfl rfl ?_
      refine w_load (pc' := 21) (v := .ref 0) (m := 1) (ykc_141 (e := (2, .aload_n kF0, 0)) rfl) rfl rfl ?_
      refine w_gf (pc' := 24) (v := .ref 157) (ykc_141 (e := (5, .getfield 69, 0)) rfl) rfl (zsg hS zs_0_9) rfl ?_
      refine w_load (pc' := 25) (v := .int x) (m := 1) (ykc_141 (e := (2, .iload_n kF1, 0)) rfl) rfl rfl ?_
      refine w_cv (as := [.ref 157, .int x]) (r := []) (ykc_141 (e := (6, .invokevirtual 290, 0)) rfl) rfl rfl rfl rfl (zc_plKind hS hx hk h30 hi dk) (fun v1576 ph1577 hv => ?_)
      rcases hv with ⟨rfl, rfl⟩
      · show zW n D 141 Q 28 [some (.ref 0), some (.int x), some (.int (zn (t (s + 1) - 48))), some (.int y1)] [.int (zn (t s))] ph
        rcases zdw_c g1 with e | e | e | e | e
        · refine w_br (pc' := 104) (st' := []) (ykc_141 (e := (4, .tableswitch 133 98 112 #[103, 133, 133, 133, 89, 96, 133, 133, 133, 133, 133, 133, 76, 133, 110], 76)) rfl) (by rw [e]; rfl) ?_
          refine w_load (pc' := 105) (v := .ref 0) (m := 1) (ykc_141 (e := (2, .aload_n kF0, 0)) rfl) rfl rfl ?_
          refine w_gf (pc' := 108) (v := .ref 10) (ykc_141 (e := (5, .getfield 35, 0)) rfl) rfl (zsg hS zs_0_3) rfl ?_
          refine w_load (pc' := 109) (v := .ref 0) (m := 1) (ykc_141 (e := (2, .aload_n kF0, 0)) rfl) rfl rfl ?_
          refine w_gf (pc' := 112) (v := .ref 25) (ykc_141 (e := (5, .getfield 42, 0)) rfl) rfl (zsg hS zs_0_4) rfl ?_
          refine w_load (pc' := 113) (v := .int (zn (t (s + 1) - 48))) (m := 1) (ykc_141 (e := (2, .iload_n kF2, 0)) rfl) rfl rfl ?_
          refine w_cv (as := [.ref 10, .ref 25, .int (zn (t (s + 1) - 48))]) (r := []) (ykc_141 (e := (6, .invokevirtual 239, 0)) rfl) rfl rfl rfl rfl (zc_pass (N := t (s + 1) - 48) hS hE ht hO (Or.inl rfl) hr hc (by omega)) (fun v1578 ph1579 hv => ?_)
          rcases hv with ⟨f2, ht2, hc2, rfl⟩
          · show zW n D 141 Q 116 [some (.ref 0), some (.int x), some (.int (zn (t (s + 1) - 48))), some (.int y1)] [.int (zKw (zHqn E P G v (t (s + 1) - 48)) P)] ph1579
            refine w_ret (v := (some (.int (zKw (zHqn E P G v (t (s + 1) - 48)) P)))) (ykc_141 (e := (7, .ireturn, 0)) rfl) (zr_v rfl) ?_
            rw [hQ]
            obtain ⟨kk, hk1, hk2⟩ := zKw_b (v := zHqn E P G v (t (s + 1) - 48)) P hP8 (fun p hp => ((zHqn_ok hO hP8 hG8 _ (by omega)).1 p hp).2.2.2)
            refine ⟨zFr_mono f2 (by simp) (by simp), _, rfl, Or.inl ⟨_, ?_, by rw [hk2, znt (by omega)]; omega, ht2, hc2⟩⟩
            rw [hs]
            unfold zAct
            rw [if_pos e]
            
          
        · have q2 : 48 ≤ t (s + 2) ∧ t (s + 2) ≤ 57 := zdi_d (g3 1 (by rw [e]; decide))
          have tq2 := znt (k := t (s + 2) - 48) (by omega)
          have ey1 : y1 = zn (t (s + 2) - 48) := by
            have := hy1.symm.trans (dd 1 hi (by rw [e]; decide) (Or.inr (by decide)))
            cases this
            rfl
          subst ey1
          show zW n D 141 Q 28 [some (.ref 0), some (.int x), some (.int (zn (t (s + 1) - 48))), some (.int (zn (t (s + 2) - 48)))] [.int (zn (t s))] ph
          refine w_br (pc' := 117) (st' := []) (ykc_141 (e := (4, .tableswitch 133 98 112 #[103, 133, 133, 133, 89, 96, 133, 133, 133, 133, 133, 133, 76, 133, 110], 76)) rfl) (by rw [e]; rfl) ?_
          refine w_load (pc' := 118) (v := .ref 0) (m := 1) (ykc_141 (e := (2, .aload_n kF0, 0)) rfl) rfl rfl ?_
          refine w_load (pc' := 119) (v := .int (zn (t (s + 1) - 48))) (m := 1) (ykc_141 (e := (2, .iload_n kF2, 0)) rfl) rfl rfl ?_
          refine w_load (pc' := 120) (v := .int (zn (t (s + 2) - 48))) (m := 1) (ykc_141 (e := (2, .iload_n kF3, 0)) rfl) rfl rfl ?_
          refine w_cv (as := [.ref 0, .int (zn (t (s + 1) - 48)), .int (zn (t (s + 2) - 48))]) (r := []) (ykc_141 (e := (6, .invokevirtual 259, 0)) rfl) rfl rfl rfl rfl (zc_turnTo hS hL0 hd0 hO) (fun v1580 ph1581 hv => ?_)
          rcases hv with ⟨hbad, rfl, rfl⟩ | ⟨p, f, hp9, hf9, hpP, hf8, rfl, u9⟩
          · have tm1 : (Int32.ofInt (-1)).toInt = -1 := by decide
            show zW n D 141 Q 123 [some (.ref 0), some (.int x), some (.int (zn (t (s + 1) - 48))), some (.int (zn (t (s + 2) - 48)))] [.int (Int32.ofInt (-1))] ph
            refine w_ret (v := (some (.int (Int32.ofInt (-1))))) (ykc_141 (e := (7, .ireturn, 0)) rfl) (zr_v rfl) ?_
            rw [hQ]
            refine ⟨zFr_refl, _, rfl, Or.inr ⟨?_, by omega, ht, hc⟩⟩
            rw [hs]
            unfold zAct
            rw [if_neg (show ¬ t s = 110 by omega)]
            rw [if_pos e]
            rw [if_neg (by omega)]
          · have ep : p = t (s + 1) - 48 := zn_inj hp9.symm (by omega) (by omega)
            have ef : f = t (s + 2) - 48 := zn_inj hf9.symm (by omega) (by omega)
            subst ep ef
            have tz8 := znt (k := ze8 (v (8 + (t (s + 1) - 48))) (t (s + 2) - 48)) (by unfold ze8; omega)
            show zW n D 141 Q 123 [some (.ref 0), some (.int x), some (.int (zn (t (s + 1) - 48))), some (.int (zn (t (s + 2) - 48)))] [.int (zn (ze8 (v (8 + (t (s + 1) - 48))) (t (s + 2) - 48)))] ph1581
            refine w_ret (v := (some (.int (zn (ze8 (v (8 + (t (s + 1) - 48))) (t (s + 2) - 48)))))) (ykc_141 (e := (7, .ireturn, 0)) rfl) (zr_v rfl) ?_
            rw [hQ]
            have f9 : zFr [27] [] _ _ := zFr_st u9 (Or.inl (by simp))
            refine ⟨zFr_mono f9 (by simp) (by simp), _, rfl, Or.inl ⟨znu v (8 + (t (s + 1) - 48)) (t (s + 2) - 48), ?_, by omega, ⟨⟨by decide, zSs_F f9 (by simp) (by simp) ht.1.2⟩, zSd_u (S := 25) (a := 2) (by decide) (by omega) u9 hd0⟩, zCc_F f9 (by simp) (by simp) (by simp) hc⟩⟩
            rw [hs]
            unfold zAct
            rw [if_neg (show ¬ t s = 110 by omega)]
            rw [if_pos e]
            rw [if_pos ⟨by omega, by omega⟩]
          
        · have q2 : 48 ≤ t (s + 2) ∧ t (s + 2) ≤ 57 := zdi_d (g3 1 (by rw [e]; decide))
          have tq2 := znt (k := t (s + 2) - 48) (by omega)
          have ey1 : y1 = zn (t (s + 2) - 48) := by
            have := hy1.symm.trans (dd 1 hi (by rw [e]; decide) (Or.inr (by decide)))
            cases this
            rfl
          subst ey1
          show zW n D 141 Q 28 [some (.ref 0), some (.int x), some (.int (zn (t (s + 1) - 48))), some (.int (zn (t (s + 2) - 48)))] [.int (zn (t s))] ph
          refine w_br (pc' := 124) (st' := []) (ykc_141 (e := (4, .tableswitch 133 98 112 #[103, 133, 133, 133, 89, 96, 133, 133, 133, 133, 133, 133, 76, 133, 110], 76)) rfl) (by rw [e]; rfl) ?_
          refine w_load (pc' := 125) (v := .ref 0) (m := 1) (ykc_141 (e := (2, .aload_n kF0, 0)) rfl) rfl rfl ?_
          refine w_load (pc' := 126) (v := .int (zn (t (s + 1) - 48))) (m := 1) (ykc_141 (e := (2, .iload_n kF2, 0)) rfl) rfl rfl ?_
          refine w_load (pc' := 127) (v := .int (zn (t (s + 2) - 48))) (m := 1) (ykc_141 (e := (2, .iload_n kF3, 0)) rfl) rfl rfl ?_
          refine w_cv (as := [.ref 0, .int (zn (t (s + 1) - 48)), .int (zn (t (s + 2) - 48))]) (r := []) (ykc_141 (e := (6, .invokevirtual 262, 0)) rfl) rfl rfl rfl rfl (zc_walk hS hL0 hd0 hO) (fun v1582 ph1583 hv => ?_)
          rcases hv with ⟨hbad, rfl, rfl⟩ | ⟨p, f, hp9, hf9, hpP, hf8, ⟨hrk, rfl, rfl⟩ | ⟨g, hgR, hgk, rfl, u9⟩⟩
          · have tm1 : (Int32.ofInt (-1)).toInt = -1 := by decide
            show zW n D 141 Q 130 [some (.ref 0), some (.int x), some (.int (zn (t (s + 1) - 48))), some (.int (zn (t (s + 2) - 48)))] [.int (Int32.ofInt (-1))] ph
            refine w_ret (v := (some (.int (Int32.ofInt (-1))))) (ykc_141 (e := (7, .ireturn, 0)) rfl) (zr_v rfl) ?_
            rw [hQ]
            refine ⟨zFr_refl, _, rfl, Or.inr ⟨?_, by omega, ht, hc⟩⟩
            rw [hs]
            unfold zAct
            rw [if_neg (show ¬ t s = 110 by omega)]
            rw [if_neg (show ¬ t s = 102 by omega)]
            rw [if_pos e]
            rw [if_neg (by omega)]
          · have ep : p = t (s + 1) - 48 := zn_inj hp9.symm (by omega) (by omega)
            have ef : f = t (s + 2) - 48 := zn_inj hf9.symm (by omega) (by omega)
            subst ep ef
            have tm2 : ((Int8.ofInt (-2)).toInt32).toInt = -2 := by decide
            show zW n D 141 Q 130 [some (.ref 0), some (.int x), some (.int (zn (t (s + 1) - 48))), some (.int (zn (t (s + 2) - 48)))] [.int ((Int8.ofInt (-2)).toInt32)] ph
            refine w_ret (v := (some (.int ((Int8.ofInt (-2)).toInt32)))) (ykc_141 (e := (7, .ireturn, 0)) rfl) (zr_v rfl) ?_
            rw [hQ]
            refine ⟨zFr_refl, _, rfl, Or.inr ⟨?_, by omega, ht, hc⟩⟩
            rw [hs]
            unfold zAct
            rw [if_neg (show ¬ t s = 110 by omega)]
            rw [if_neg (show ¬ t s = 102 by omega)]
            rw [if_pos e]
            rw [if_neg (fun q => by have q2 := q.2.2; omega)]
          · have ep : p = t (s + 1) - 48 := zn_inj hp9.symm (by omega) (by omega)
            have ef : f = t (s + 2) - 48 := zn_inj hf9.symm (by omega) (by omega)
            subst ep ef
            have tg := znt (k := g) (by have := zRC49 hR7.2.1 hR7.2.2.2; omega)
            show zW n D 141 Q 130 [some (.ref 0), some (.int x), some (.int (zn (t (s + 1) - 48))), some (.int (zn (t (s + 2) - 48)))] [.int (zn g)] ph1583
            refine w_ret (v := (some (.int (zn g)))) (ykc_141 (e := (7, .ireturn, 0)) rfl) (zr_v rfl) ?_
            rw [hQ]
            have f9 : zFr [26] [] _ _ := zFr_st u9 (Or.inl (by simp))
            refine ⟨zFr_mono f9 (by simp) (by simp), _, rfl, Or.inl ⟨znu v ((t (s + 1) - 48)) g, ?_, by omega, ⟨⟨by decide, zSs_F f9 (by simp) (by simp) ht.1.2⟩, (by
              have h9 := zSd_u (S := 25) (a := 1) (by decide) (by omega) u9 hd0
              rw [show 8 * (1 - 1) + (t (s + 1) - 48) = t (s + 1) - 48 by omega] at h9
              exact h9)⟩, zCc_F f9 (by simp) (by simp) (by simp) hc⟩⟩
            rw [hs]
            unfold zAct
            rw [if_neg (show ¬ t s = 110 by omega)]
            rw [if_neg (show ¬ t s = 102 by omega)]
            rw [if_pos e]
            rw [if_pos ⟨by omega, by omega, by rw [hgk]; omega⟩, hgk]
            rfl
          
        · have q2 : 48 ≤ t (s + 2) ∧ t (s + 2) ≤ 57 := zdi_d (g3 1 (by rw [e]; decide))
          have tq2 := znt (k := t (s + 2) - 48) (by omega)
          have ey1 : y1 = zn (t (s + 2) - 48) := by
            have := hy1.symm.trans (dd 1 hi (by rw [e]; decide) (Or.inr (by decide)))
            cases this
            rfl
          subst ey1
          show zW n D 141 Q 28 [some (.ref 0), some (.int x), some (.int (zn (t (s + 1) - 48))), some (.int (zn (t (s + 2) - 48)))] [.int (zn (t s))] ph
          refine w_br (pc' := 131) (st' := []) (ykc_141 (e := (4, .tableswitch 133 98 112 #[103, 133, 133, 133, 89, 96, 133, 133, 133, 133, 133, 133, 76, 133, 110], 76)) rfl) (by rw [e]; rfl) ?_
          refine w_load (pc' := 132) (v := .ref 0) (m := 1) (ykc_141 (e := (2, .aload_n kF0, 0)) rfl) rfl rfl ?_
          refine w_load (pc' := 133) (v := .int (zn (t (s + 1) - 48))) (m := 1) (ykc_141 (e := (2, .iload_n kF2, 0)) rfl) rfl rfl ?_
          refine w_load (pc' := 134) (v := .int (zn (t (s + 2) - 48))) (m := 1) (ykc_141 (e := (2, .iload_n kF3, 0)) rfl) rfl rfl ?_
          refine w_cv (as := [.ref 0, .int (zn (t (s + 1) - 48)), .int (zn (t (s + 2) - 48))]) (r := []) (ykc_141 (e := (6, .invokevirtual 265, 0)) rfl) rfl rfl rfl rfl (zc_trimTo hS hL0 hd0 hO) (fun v1584 ph1585 hv => ?_)
          rcases hv with ⟨hbad, rfl, rfl⟩ | ⟨p, f, hp9, hf9, hpP, hf4, rfl, u9⟩
          · have tm1 : (Int32.ofInt (-1)).toInt = -1 := by decide
            show zW n D 141 Q 137 [some (.ref 0), some (.int x), some (.int (zn (t (s + 1) - 48))), some (.int (zn (t (s + 2) - 48)))] [.int (Int32.ofInt (-1))] ph
            refine w_ret (v := (some (.int (Int32.ofInt (-1))))) (ykc_141 (e := (7, .ireturn, 0)) rfl) (zr_v rfl) ?_
            rw [hQ]
            refine ⟨zFr_refl, _, rfl, Or.inr ⟨?_, by omega, ht, hc⟩⟩
            rw [hs]
            unfold zAct
            rw [if_neg (show ¬ t s = 110 by omega)]
            rw [if_neg (show ¬ t s = 102 by omega)]
            rw [if_neg (show ¬ t s = 103 by omega)]
            rw [if_pos e]
            rw [if_neg (by omega)]
          · have ep : p = t (s + 1) - 48 := zn_inj hp9.symm (by omega) (by omega)
            have ef : f = t (s + 2) - 48 := zn_inj hf9.symm (by omega) (by omega)
            subst ep ef
            have tv := znt (k := v (16 + (t (s + 1) - 48))) (by have := (hO.1 _ hpP).2.2.1; omega)
            show zW n D 141 Q 137 [some (.ref 0), some (.int x), some (.int (zn (t (s + 1) - 48))), some (.int (zn (t (s + 2) - 48)))] [.int (zn (v (16 + (t (s + 1) - 48))))] ph1585
            refine w_ret (v := (some (.int (zn (v (16 + (t (s + 1) - 48))))))) (ykc_141 (e := (7, .ireturn, 0)) rfl) (zr_v rfl) ?_
            rw [hQ]
            have f9 : zFr [28] [] _ _ := zFr_st u9 (Or.inl (by simp))
            refine ⟨zFr_mono f9 (by simp) (by simp), _, rfl, Or.inl ⟨znu v (16 + (t (s + 1) - 48)) (t (s + 2) - 48), ?_, by omega, ⟨⟨by decide, zSs_F f9 (by simp) (by simp) ht.1.2⟩, zSd_u (S := 25) (a := 3) (by decide) (by omega) u9 hd0⟩, zCc_F f9 (by simp) (by simp) (by simp) hc⟩⟩
            rw [hs]
            unfold zAct
            rw [if_neg (show ¬ t s = 110 by omega)]
            rw [if_neg (show ¬ t s = 102 by omega)]
            rw [if_neg (show ¬ t s = 103 by omega)]
            rw [if_pos e]
            rw [if_pos ⟨by omega, by omega⟩]
          
        · have q2 : 48 ≤ t (s + 2) ∧ t (s + 2) ≤ 57 := zdi_d (g3 1 (by rw [e]; decide))
          have tq2 := znt (k := t (s + 2) - 48) (by omega)
          have ey1 : y1 = zn (t (s + 2) - 48) := by
            have := hy1.symm.trans (dd 1 hi (by rw [e]; decide) (Or.inr (by decide)))
            cases this
            rfl
          subst ey1
          show zW n D 141 Q 28 [some (.ref 0), some (.int x), some (.int (zn (t (s + 1) - 48))), some (.int (zn (t (s + 2) - 48)))] [.int (zn (t s))] ph
          have q3 : 48 ≤ t (s + 3) ∧ t (s + 3) ≤ 57 := zdi_d (g3 2 (by rw [e]; decide))
          have tq3 := znt (k := t (s + 3) - 48) (by omega)
          refine w_br (pc' := 138) (st' := []) (ykc_141 (e := (4, .tableswitch 133 98 112 #[103, 133, 133, 133, 89, 96, 133, 133, 133, 133, 133, 133, 76, 133, 110], 76)) rfl) (by rw [e]; rfl) ?_
          refine w_load (pc' := 139) (v := .ref 0) (m := 1) (ykc_141 (e := (2, .aload_n kF0, 0)) rfl) rfl rfl ?_
          refine w_load (pc' := 140) (v := .int (zn (t (s + 1) - 48))) (m := 1) (ykc_141 (e := (2, .iload_n kF2, 0)) rfl) rfl rfl ?_
          refine w_load (pc' := 141) (v := .ref 0) (m := 1) (ykc_141 (e := (2, .aload_n kF0, 0)) rfl) rfl rfl ?_
          refine w_gf (pc' := 144) (v := .ref 5) (ykc_141 (e := (5, .getfield 26, 0)) rfl) rfl (zsg hS zs_0_2) rfl ?_
          refine w_load (pc' := 145) (v := .int (zn (t (s + 2) - 48))) (m := 1) (ykc_141 (e := (2, .iload_n kF3, 0)) rfl) rfl rfl ?_
          refine w_load (pc' := 146) (v := .ref 0) (m := 1) (ykc_141 (e := (2, .aload_n kF0, 0)) rfl) rfl rfl ?_
          refine w_gf (pc' := 149) (v := .ref 157) (ykc_141 (e := (5, .getfield 69, 0)) rfl) rfl (zsg hS zs_0_9) rfl ?_
          refine w_load (pc' := 150) (v := .int x) (m := 1) (ykc_141 (e := (2, .iload_n kF1, 0)) rfl) rfl rfl ?_
          refine w_alu (pc' := 151) (st' := [.int (Int32.ofInt 2), .int x, .ref 157, .int (zn (t (s + 2) - 48)), .ref 5, .int (zn (t (s + 1) - 48)), .ref 0]) (ykc_141 (e := (0, .iconst 2, 0)) rfl) rfl rfl ?_
          refine w_cv (as := [.ref 157, .int x, .int (Int32.ofInt 2)]) (r := [.int (zn (t (s + 2) - 48)), .ref 5, .int (zn (t (s + 1) - 48)), .ref 0]) (ykc_141 (e := (6, .invokevirtual 289, 0)) rfl) rfl rfl rfl rfl (zc_plDig (k := k) (i := i) (j := 2) hS hx (by decide) hk h30 hi (by decide)) (fun v1586 ph1587 hv => ?_)
          rcases hv with ⟨rfl, y2, rfl, hy2⟩
          · have ey2 : y2 = zn (t (s + 3) - 48) := by
              have := hy2.symm.trans (dd 2 hi (by rw [e]; decide) (Or.inr (by decide)))
              cases this
              rfl
            subst ey2
            show zW n D 141 Q 154 [some (.ref 0), some (.int x), some (.int (zn (t (s + 1) - 48))), some (.int (zn (t (s + 2) - 48)))] [.int (zn (t (s + 3) - 48)), .int (zn (t (s + 2) - 48)), .ref 5, .int (zn (t (s + 1) - 48)), .ref 0] ph
            refine w_cv (as := [.ref 5, .int (zn (t (s + 2) - 48)), .int (zn (t (s + 3) - 48))]) (r := [.int (zn (t (s + 1) - 48)), .ref 0]) (ykc_141 (e := (6, .invokevirtual 140, 0)) rfl) rfl rfl rfl rfl (zc_fat hS hL0) (fun v1588 ph1589 hv => ?_)
            rcases hv with ⟨rfl, z9, rfl, hz9⟩
            · have tm1 : (Int32.ofInt (-1)).toInt = -1 := by decide
              unfold zfa at hz9
              show zW n D 141 Q 157 [some (.ref 0), some (.int x), some (.int (zn (t (s + 1) - 48))), some (.int (zn (t (s + 2) - 48)))] [.int z9, .int (zn (t (s + 1) - 48)), .ref 0] ph
              refine w_cv (as := [.ref 0, .int (zn (t (s + 1) - 48)), .int z9]) (r := []) (ykc_141 (e := (6, .invokevirtual 268, 0)) rfl) rfl rfl rfl rfl (zc_putOn hS hL0 hd0 hO) (fun v1590 ph1591 hv => ?_)
              rcases hv with ⟨hbad, rfl, rfl⟩ | ⟨p, f, hp9, hf9, hpP, hfR, ⟨hsm, rfl, rfl⟩ | ⟨hne, rfl, u9⟩⟩
              · show zW n D 141 Q 160 [some (.ref 0), some (.int x), some (.int (zn (t (s + 1) - 48))), some (.int (zn (t (s + 2) - 48)))] [.int (Int32.ofInt (-1))] ph
                refine w_ret (v := (some (.int (Int32.ofInt (-1))))) (ykc_141 (e := (7, .ireturn, 0)) rfl) (zr_v rfl) ?_
                rw [hQ]
                refine ⟨zFr_refl, _, rfl, Or.inr ⟨?_, by omega, ht, hc⟩⟩
                rw [hs]
                unfold zAct
                rw [if_neg (show ¬ t s = 110 by omega)]
                rw [if_neg (show ¬ t s = 102 by omega)]
                rw [if_neg (show ¬ t s = 103 by omega)]
                rw [if_neg (show ¬ t s = 98 by omega)]
                rw [if_neg (fun q => by
                  obtain ⟨a1, a2, a3, a4⟩ := q
                  rw [if_pos ⟨by omega, by omega, by omega, by omega⟩] at hz9
                  have hmm : E.2.1 * (t (s + 2) - 48) + (t (s + 3) - 48) < E.1 * E.2.1 := by
                    have := Nat.mul_le_mul_left E.2.1 (show t (s + 2) - 48 + 1 ≤ E.1 by omega)
                    rw [Nat.mul_add, Nat.mul_one, Nat.mul_comm E.2.1 E.1] at this
                    omega
                  have hcm : (zn (t (s + 2) - 48)).toInt.toNat * E.2.1 = E.2.1 * (t (s + 2) - 48) := by rw [tq2, Int.toNat_natCast, Nat.mul_comm]
                  rw [hcm, tq3, Int.toNat_natCast] at hz9
                  omega)]
              · have hin : t (s + 2) - 48 < E.1 ∧ t (s + 3) - 48 < E.2.1 ∧ f = E.2.1 * (t (s + 2) - 48) + (t (s + 3) - 48) := by
                  by_cases a : t (s + 2) - 48 < E.1 ∧ t (s + 3) - 48 < E.2.1
                  · rw [if_pos ⟨by omega, by omega, by omega, by omega⟩] at hz9
                    have hcm : (zn (t (s + 2) - 48)).toInt.toNat * E.2.1 = E.2.1 * (t (s + 2) - 48) := by rw [tq2, Int.toNat_natCast, Nat.mul_comm]
                    rw [hcm, tq3, Int.toNat_natCast, hf9, znt (by have := zRC49 hR7.2.1 hR7.2.2.2; omega)] at hz9
                    exact ⟨a.1, a.2, by omega⟩
                  · rw [if_neg (by omega), hf9, znt (by have := zRC49 hR7.2.1 hR7.2.2.2; omega)] at hz9
                    omega
                obtain ⟨in1, in2, in3⟩ := hin
                have ep : p = t (s + 1) - 48 := zn_inj hp9.symm (by omega) (by omega)
                subst ep in3
                have tm2 : ((Int8.ofInt (-2)).toInt32).toInt = -2 := by decide
                show zW n D 141 Q 160 [some (.ref 0), some (.int x), some (.int (zn (t (s + 1) - 48))), some (.int (zn (t (s + 2) - 48)))] [.int ((Int8.ofInt (-2)).toInt32)] ph
                refine w_ret (v := (some (.int ((Int8.ofInt (-2)).toInt32)))) (ykc_141 (e := (7, .ireturn, 0)) rfl) (zr_v rfl) ?_
                rw [hQ]
                refine ⟨zFr_refl, _, rfl, Or.inr ⟨?_, by omega, ht, hc⟩⟩
                rw [hs]
                unfold zAct
                rw [if_neg (show ¬ t s = 110 by omega)]
                rw [if_neg (show ¬ t s = 102 by omega)]
                rw [if_neg (show ¬ t s = 103 by omega)]
                rw [if_neg (show ¬ t s = 98 by omega)]
                rw [if_neg (fun q => q.2.2.2 hsm)]
              · have hin : t (s + 2) - 48 < E.1 ∧ t (s + 3) - 48 < E.2.1 ∧ f = E.2.1 * (t (s + 2) - 48) + (t (s + 3) - 48) := by
                  by_cases a : t (s + 2) - 48 < E.1 ∧ t (s + 3) - 48 < E.2.1
                  · rw [if_pos ⟨by omega, by omega, by omega, by omega⟩] at hz9
                    have hcm : (zn (t (s + 2) - 48)).toInt.toNat * E.2.1 = E.2.1 * (t (s + 2) - 48) := by rw [tq2, Int.toNat_natCast, Nat.mul_comm]
                    rw [hcm, tq3, Int.toNat_natCast, hf9, znt (by have := zRC49 hR7.2.1 hR7.2.2.2; omega)] at hz9
                    exact ⟨a.1, a.2, by omega⟩
                  · rw [if_neg (by omega), hf9, znt (by have := zRC49 hR7.2.1 hR7.2.2.2; omega)] at hz9
                    omega
                obtain ⟨in1, in2, in3⟩ := hin
                have ep : p = t (s + 1) - 48 := zn_inj hp9.symm (by omega) (by omega)
                subst ep in3
                have tv := znt (k := v (32 + (t (s + 1) - 48))) (by have := hO.2.1 _ hpP; have := zRC49 hR7.2.1 hR7.2.2.2; omega)
                show zW n D 141 Q 160 [some (.ref 0), some (.int x), some (.int (zn (t (s + 1) - 48))), some (.int (zn (t (s + 2) - 48)))] [.int (zn (v (32 + (t (s + 1) - 48))))] ph1591
                refine w_ret (v := (some (.int (zn (v (32 + (t (s + 1) - 48))))))) (ykc_141 (e := (7, .ireturn, 0)) rfl) (zr_v rfl) ?_
                rw [hQ]
                have f9 : zFr [30] [] _ _ := zFr_st u9 (Or.inl (by simp))
                refine ⟨zFr_mono f9 (by simp) (by simp), _, rfl, Or.inl ⟨znu v (32 + (t (s + 1) - 48)) (E.2.1 * (t (s + 2) - 48) + (t (s + 3) - 48)), ?_, by omega, ⟨⟨by decide, zSs_F f9 (by simp) (by simp) ht.1.2⟩, zSd_u (S := 25) (a := 5) (by decide) (by omega) u9 hd0⟩, zCc_F f9 (by simp) (by simp) (by simp) hc⟩⟩
                rw [hs]
                unfold zAct
                rw [if_neg (show ¬ t s = 110 by omega)]
                rw [if_neg (show ¬ t s = 102 by omega)]
                rw [if_neg (show ¬ t s = 103 by omega)]
                rw [if_neg (show ¬ t s = 98 by omega)]
                rw [if_pos ⟨in1, in2, by omega, hne⟩]
          
      
    
  
end
section
/-! the acts of a DAY one behind another, on paper -/
noncomputable def zAr (E : zEn) (P G : Nat) (v t : Nat → Nat) : Nat → Option (Nat → Nat)
  | 0 => some v
  | i + 1 => (zAr E P G v t i).bind (fun v2 => zAct E P G v2 t (zDp t i))
/-- i of k acts could be done -/
def zAs2 (E : zEn) (P G : Nat) (v t : Nat → Nat) (k i : Nat) (v2 : Nat → Nat) : Prop := i ≤ k ∧ zAr E P G v t i = some v2 ∧ (i < k → zAct E P G v2 t (zDp t i) = none)
section ZAR
variable {E : zEn} {P G : Nat} {v t : Nat → Nat}
theorem zAr_s {i : Nat} {v2 : Nat → Nat} (h : zAr E P G v t i = some v2) : zAr E P G v t (i + 1) = zAct E P G v2 t (zDp t i) := by
  show (zAr E P G v t i).bind _ = _
  rw [h]
  rfl
theorem zAr_n {i : Nat} (h : zAr E P G v t i = none) : ∀ m, zAr E P G v t (i + m) = none
  | 0 => h
  | m + 1 => by
    show (zAr E P G v t (i + m)).bind _ = none
    rw [zAr_n h m]
    rfl
theorem zAs2_u {k i i' : Nat} {v2 v2' : Nat → Nat} (h : zAs2 E P G v t k i v2) (h' : zAs2 E P G v t k i' v2') : i = i' ∧ v2 = v2' := by
  obtain ⟨a1, a2, a3⟩ := h
  obtain ⟨b1, b2, b3⟩ := h'
  have key : ∀ {i i' : Nat} {v2 v2' : Nat → Nat}, zAr E P G v t i = some v2 → (i < k → zAct E P G v2 t (zDp t i) = none) → i' ≤ k → zAr E P G v t i' = some v2' → ¬ i < i' := fun {i i' v2 v2'} c1 c2 c3 c4 hlt => by
    have c5 : zAr E P G v t (i + 1) = none := by
      rw [zAr_s c1]
      exact c2 (by omega)
    have c6 := zAr_n c5 (i' - (i + 1))
    rw [show i + 1 + (i' - (i + 1)) = i' by omega, c4] at c6
    cases c6
  have e : i = i' := by
    have k1 := key a2 a3 b1 b2
    have k2 := key b2 b3 a1 a2
    omega
  subst e
  rw [a2] at b2
  cases b2
  exact ⟨rfl, rfl⟩
theorem zOk_u {R C : Nat} (h : zOk R C P G v) {i x : Nat} (h0 : i < 40) (h1 : i < 8 → x < R * C) (h2 : 8 ≤ i → i < 16 → x < 8) (h3 : 16 ≤ i → i < 24 → x ≤ 4) (h4 : 24 ≤ i → i < 32 → x < 256) (h5 : 32 ≤ i → x < R * C) (hP : P ≤ 8) : zOk R C P G (znu v i x) := by
  obtain ⟨g1, g2, g3⟩ := h
  refine ⟨fun p hp => ?_, fun g hg => ?_, ?_⟩
  · obtain ⟨k1, k2, k3, k4⟩ := g1 p hp
    refine ⟨?_, ?_, ?_, ?_⟩
    · by_cases e : p = i
      · subst e; rw [znu_e]; exact h1 (by omega)
      · rw [znu_n e]; exact k1
    · by_cases e : 8 + p = i
      · subst e; rw [znu_e]; exact h2 (by omega) (by omega)
      · rw [znu_n e]; exact k2
    · by_cases e : 16 + p = i
      · subst e; rw [znu_e]; exact h3 (by omega) (by omega)
      · rw [znu_n e]; exact k3
    · by_cases e : 24 + p = i
      · subst e; rw [znu_e]; exact h4 (by omega) (by omega)
      · rw [znu_n e]; exact k4
  · by_cases e : 32 + g = i
    · subst e; rw [znu_e]; exact h5 (by omega)
    · rw [znu_n e]; exact g2 g hg
  · rw [znu_n (by omega)]; exact g3
theorem zbk_lt {R C : Nat} {rk : Nat → Bool} {f w : Nat} (h : 0 ≤ zbk R C rk f w) : (zbk R C rk f w).toNat < R * C := by
  unfold zbk at h ⊢
  by_cases e : zin R C f w = true ∧ rk (zto C f w) = false
  · rw [if_pos e]
    exact zto_lt e.1
  · rw [if_neg e] at h
    omega
theorem zAct_ok {b i : Nat} {v2 : Nat → Nat} (hO : zOk E.1 E.2.1 P G v) (hP : P ≤ 8) (hG : G ≤ 8) (h40 : v 40 + 9 < 999999) (hg : zDg b t i) (h : zAct E P G v t (zDp t i) = some v2) : zOk E.1 E.2.1 P G v2 ∧ v2 40 ≤ v 40 + 9 := by
  obtain ⟨g1, g2, g3⟩ := hg
  obtain ⟨s, hs⟩ : ∃ s, zDp t i = s := ⟨_, rfl⟩
  rw [hs] at h g1 g2 g3
  have q1 := zdi_d (g3 0 g1)
  rw [Nat.add_zero] at q1
  unfold zAct at h
  by_cases e1 : t s = 110
  · rw [if_pos e1] at h
    cases h
    exact ⟨zHqn_ok hO hP hG _ (by omega), by rw [zHqn_40 hP]; omega⟩
  · rw [if_neg e1] at h
    by_cases e2 : t s = 102
    · rw [if_pos e2] at h
      split at h
      · next q =>
        cases h
        exact ⟨zOk_u hO (by omega) (fun q => by omega) (fun _ _ => q.2) (fun q => by omega) (fun q => by omega) (fun q => by omega) hP, by rw [znu_n (by omega)]; omega⟩
      · cases h
    · rw [if_neg e2] at h
      by_cases e3 : t s = 103
      · rw [if_pos e3] at h
        split at h
        · next q =>
          cases h
          exact ⟨zOk_u hO (by omega) (fun _ => zbk_lt q.2.2) (fun q => by omega) (fun q => by omega) (fun q => by omega) (fun q => by omega) hP, by rw [znu_n (by omega)]; omega⟩
        · cases h
      · rw [if_neg e3] at h
        by_cases e4 : t s = 98
        · rw [if_pos e4] at h
          split at h
          · next q =>
            cases h
            exact ⟨zOk_u hO (by omega) (fun q => by omega) (fun q => by omega) (fun _ _ => q.2) (fun q => by omega) (fun q => by omega) hP, by rw [znu_n (by omega)]; omega⟩
          · cases h
        · rw [if_neg e4] at h
          split at h
          · next q =>
            cases h
            have hmm : E.2.1 * (t (s + 2) - 48) + (t (s + 3) - 48) < E.1 * E.2.1 := by
              have := Nat.mul_le_mul_left E.2.1 (show t (s + 2) - 48 + 1 ≤ E.1 by omega)
              rw [Nat.mul_add, Nat.mul_one, Nat.mul_comm E.2.1 E.1] at this
              omega
            exact ⟨zOk_u hO (by omega) (fun q => by omega) (fun q => by omega) (fun q => by omega) (fun q => by omega) (fun _ => hmm) hP, by rw [znu_n (by omega)]; omega⟩
          · cases h
theorem zAr_ok {b k : Nat} (hO : zOk E.1 E.2.1 P G v) (hP : P ≤ 8) (hG : G ≤ 8) (hg : zDok b t k) (h40 : v 40 + 9 * k < 999000) : ∀ i, i ≤ k → ∀ {v2 : Nat → Nat}, zAr E P G v t i = some v2 → zOk E.1 E.2.1 P G v2 ∧ v2 40 ≤ v 40 + 9 * i
  | 0, _, v2, h => by
    cases h
    exact ⟨hO, by omega⟩
  | i + 1, hi, v2, h => by
    cases h1 : zAr E P G v t i with
    | none =>
      have : zAr E P G v t (i + 1) = none := by
        show (zAr E P G v t i).bind _ = none
        rw [h1]
        rfl
      rw [this] at h
      cases h
    | some v1 =>
      rw [zAr_s h1] at h
      obtain ⟨g1, g2⟩ := zAr_ok hO hP hG hg h40 i (by omega) h1
      obtain ⟨g3, g4⟩ := zAct_ok g1 hP hG (by omega) (hg i (by omega)) h
      exact ⟨g3, by omega⟩
end ZAR
end
section
/-! DAY, class and reference, by W; printed by wip/z/z1o_day.py -/
theorem zKC_fa {p q : pm_H} {R C : Nat} {rk : Nat → Bool} {v2 : Nat → Nat} {P G nx u fl hn : Nat} {v : Nat → Nat} {w sv : Nat → Nat → Nat} (f : zFr [8, 9, 15, 20, 22, 23, 24, 26, 27, 28, 29, 30] [(5, 4), (25, 2)] p q) (h : zKC p R C rk P G v nx u w fl sv hn) (hd : zSd q 25 P G v2) : zKC q R C rk P G v2 nx u w fl sv hn := ⟨zCl_F f (by simp) (by intro i hi; simp <;> omega) (by simp) h.1, hd, zCu_F f (by simp) (by simp) (by intro j h1 h2; simp <;> omega) (by intro j i h1 h2; simp <;> omega) h.2.2.1, zCk_F f (by simp) (by simp) (by intro j h1 h2; simp <;> omega) (by intro j i h1 h2; simp <;> omega) h.2.2.2.1, (f.1 _ _ (by simp) (by simp)).trans h.2.2.2.2.1, h.2.2.2.2.2⟩
/-- a plan's or a text's cells have changed -/
theorem zKC_pl {p q : pm_H} {R C : Nat} {rk : Nat → Bool} {P G nx u fl hn : Nat} {v : Nat → Nat} {w sv : Nat → Nat → Nat} (f : zFr [158, 159] [(157, 2), (1, 1)] p q) (h : zKC p R C rk P G v nx u w fl sv hn) : zKC q R C rk P G v nx u w fl sv hn := ⟨zCl_F f (by simp) (by intro i hi; simp) (by simp) h.1, zSd_F f (by intro j hj; simp <;> omega) (by intro j k hj; simp <;> omega) h.2.1, zCu_F f (by simp) (by simp) (by intro j h1 h2; simp <;> omega) (by intro j i h1 h2; simp <;> omega) h.2.2.1, zCk_F2 f (by simp) (by simp) (by intro j h1 h2; simp <;> omega) (by intro j i h1 h2; simp <;> omega) h.2.2.2.1, (f.1 _ _ (by simp) (by simp)).trans h.2.2.2.2.1, h.2.2.2.2.2⟩
/-- the row from before put into the history -/
theorem zKC_pu {p q1 q2 q : pm_H} {R C : Nat} {rk : Nat → Bool} {v0 : Nat → Nat} {P G nx u fl hn : Nat} {v : Nat → Nat} {w sv : Nat → Nat → Nat} (h : zKC p R C rk P G v nx u w fl sv hn) (f : zCo (45 + 6 * nx) p q1) (u1 : zst q1 q2 43 1 (.int (zn (if nx + 1 < 15 then nx + 1 else 0)))) (u2 : zst q2 q 43 2 (.int (zn (min 15 (u + 1))))) (hd : zSd q (45 + 6 * nx) P G v0) : zKC q R C rk P G v (if nx + 1 < 15 then nx + 1 else 0) (zAd u) (zAw u (zWp u w v0)) fl sv hn := by
  obtain ⟨hL, h25, hU, hk, hh⟩ := h
  have fr : zFr [] [(43, 1), (43, 2)] q1 q := zFr_trans (zFr_st u1 (Or.inr (by simp))) (zFr_st u2 (Or.inr (by simp)))
  have hnx := hU.2.1
  refine ⟨?_, ?_, zCu_push hU f u1 u2 hd, ?_, ?_, hh.2⟩
  · exact zCl_F fr (by simp) (by intro i hi; simp) (by simp) (zCl_F f (by simp <;> omega) (by intro i hi; simp <;> omega) (by intro i; simp <;> omega) hL)
  · exact zSd_F fr (by intro j hj; simp) (by intro j k hj; simp <;> omega) (zCo_d (by omega) f h25)
  · exact zCk_F fr (by simp) (by simp) (by intro j h1 h2; simp) (by intro j i h1 h2; simp <;> omega) (zCk_F f (by simp <;> omega) (by simp <;> omega) (by intro j h1 h2; simp <;> omega) (by intro j i h1 h2; simp <;> omega) hk)
  · exact (fr.1 _ _ (by simp) (by simp)).trans ((f.1 _ _ (by simp <;> omega) (by simp <;> omega)).trans hh.1)
theorem zMe_F4 {p q : pm_H} {E : zEn} (f : zFr [174, 181, 182, 183, 184, 185, 186, 187, 188] [(170, 0), (170, 14), (170, 15), (170, 16), (170, 17), (170, 34)] p q) (h : zMe p E) : zMe q E := by
  obtain ⟨h1, ⟨a1, a2, a3, a4, a5, a6, a7⟩, h3⟩ := h
  exact ⟨zMl_F f (by simp) (by simp) (by simp) (by simp) h1, ⟨(f.1 _ _ (by decide) (by decide)).trans a1, a2, a3, fun i hi => ⟨(f.1 _ _ (by simp) (by simp)).trans (a4 i hi).1, (a4 i hi).2⟩, (f.1 _ _ (by decide) (by decide)).trans a5, a6, fun i hi => ⟨(f.1 _ _ (by simp) (by simp)).trans (a7 i hi).1, (a7 i hi).2⟩⟩, h3⟩
theorem zWp_lt {u i : Nat} {w : Nat → Nat → Nat} {v : Nat → Nat} (h : i < u) : zWp u w v i = w i := by
  unfold zWp
  rw [if_neg (by omega)]
theorem zm_day {ph : pm_H} {E : zEn} {P G u ch hn ln : Nat} {v t : Nat → Nat} {w : Nat → Nat → Nat} {kp : Nat → Bool} {kc : Nat → Nat} {sv : Nat → Nat → Nat} (hS : zSh ph) (hK : zKM ph E.1 E.2.1 E.2.2.1 P G v u w ch kp kc sv hn) (hE : zMe ph E) (hO : zOk E.1 E.2.1 P G v) (h40 : v 40 < 990000) (hn0 : zc ph 170 14 = some (.int (zn ln))) (hn80 : ln ≤ 80) (gt : ∀ i, i < ln → zc ph 176 i = some (.int (zn (t i))) ∧ t i < 256) : zM 255 [.ref 170] ph (fun v0 q => zFr [171, 174, 181, 182, 183, 184, 185, 186, 187, 188] [(170, 0), (170, 1), (170, 14), (170, 15), (170, 16), (170, 17), (170, 27), (170, 34)] ph q ∧ zc q 170 0 = some (.int (zn 0)) ∧ zc q 170 14 = some (.int (zn 0)) ∧ ∃ (ok : Bool) (a k : Nat) (y : Int32), zDo (min ln 60) t ok a k ∧ v0 = some (.int y) ∧ ((¬ (ok = true ∧ ln ≤ 60) ∧ y.toInt = -1 - (a : Int) ∧ zKM q E.1 E.2.1 E.2.2.1 P G v u w ch kp kc sv hn) ∨ (ok = true ∧ ln ≤ 60 ∧ ∃ i v2, zAs2 E P G v t k i v2 ∧ y.toInt = (i : Int) ∧ ((i = 0 ∧ zKM q E.1 E.2.1 E.2.2.1 P G v2 u w ch kp kc sv hn) ∨ (0 < i ∧ zKM q E.1 E.2.1 E.2.2.1 P G v2 (zAd u) (zAw u (zWp u w v)) ch kp kc sv hn))))) := by
  obtain ⟨Q, hQ⟩ : ∃ Q : Option Value → pm_H → Prop, Q = (fun v0 q => zFr [171, 174, 181, 182, 183, 184, 185, 186, 187, 188] [(170, 0), (170, 1), (170, 14), (170, 15), (170, 16), (170, 17), (170, 27), (170, 34)] ph q ∧ zc q 170 0 = some (.int (zn 0)) ∧ zc q 170 14 = some (.int (zn 0)) ∧ ∃ (ok : Bool) (a k : Nat) (y : Int32), zDo (min ln 60) t ok a k ∧ v0 = some (.int y) ∧ ((¬ (ok = true ∧ ln ≤ 60) ∧ y.toInt = -1 - (a : Int) ∧ zKM q E.1 E.2.1 E.2.2.1 P G v u w ch kp kc sv hn) ∨ (ok = true ∧ ln ≤ 60 ∧ ∃ i v2, zAs2 E P G v t k i v2 ∧ y.toInt = (i : Int) ∧ ((i = 0 ∧ zKM q E.1 E.2.1 E.2.2.1 P G v2 u w ch kp kc sv hn) ∨ (0 < i ∧ zKM q E.1 E.2.1 E.2.2.1 P G v2 (zAd u) (zAw u (zWp u w v)) ch kp kc sv hn))))) := ⟨_, rfl⟩
  rw [← hQ]
  refine zM_mk fun n D => ?_
  show zW n D 255 Q 0 [some (.ref 170), none, none, none, none] [] ph
  have c_0 : ((Int8.ofInt 40).toInt32).toInt = 40 := by decide
  have c_1 : ((Int8.ofInt 60).toInt32).toInt = 60 := by decide
  have c_2 : (Int32.ofInt 0).toInt = 0 := by decide
  have c_3 : (Int32.ofInt 1).toInt = 1 := by decide
  have hK0 := hK
  obtain ⟨hL, hN, hv, hU, hk9, hh⟩ := hK
  have hu15 := hU.2.1
  have tln := znt (k := ln) (by omega)
  have tz := znt (k := 0) (by omega)
  have hP8 : P ≤ 8 := hN.2.1
  have hG8 : G ≤ 8 := hN.2.2.2
  refine w_load (pc' := 1) (v := .ref 170) (m := 1) (ykc_255 (e := (2, .aload_n kF0, 0)) rfl) rfl rfl ?_
  refine w_alu (pc' := 2) (st' := [.int (Int32.ofInt 0), .ref 170]) (ykc_255 (e := (0, .iconst 0, 0)) rfl) rfl rfl ?_
  refine w_pf (pc' := 5) (ykc_255 (e := (5, .putfield 3, 0)) rfl) rfl rfl (fun ph1518 u1517 => ?_)
  refine w_load (pc' := 6) (v := .ref 170) (m := 1) (ykc_255 (e := (2, .aload_n kF0, 0)) rfl) rfl rfl ?_
  refine w_push (pc' := 8) (v := .int ((Int8.ofInt 60).toInt32)) (m := 2) (ykc_255 (e := (1, .bipush 60, 0)) rfl) rfl rfl ?_
  have f0 : zFr [] [(170, 0)] ph _ := zFr_st u1517 (Or.inr (by simp))
  refine w_cv (as := [.ref 170, .int ((Int8.ofInt 60).toInt32)]) (r := []) (ykc_255 (e := (6, .invokevirtual 175, 0)) rfl) rfl rfl rfl rfl (zm_begins (c := 60) (zSh_F f0 (by decide +kernel) hS) ((f0.1 170 14 (by decide) (by decide)).trans hn0) hn80 (fun i hi => ⟨(f0.1 176 i (by simp) (by simp)).trans (gt i hi).1, (gt i hi).2⟩) (by decide) (by decide)) (fun v1519 ph1520 hv => ?_)
  obtain ⟨rfl, f1, h14, hT⟩ := hv
  show zW n D 255 Q 11 [some (.ref 170), none, none, none, none] [.int (zn ln)] ph1520
  refine w_store (pc' := 12) (L' := [some (.ref 170), some (.int (zn ln)), none, none, none]) (st' := []) (m := 1) (ykc_255 (e := (3, .istore_n kF1, 0)) rfl) rfl rfl ?_
  refine w_load (pc' := 13) (v := .ref 170) (m := 1) (ykc_255 (e := (2, .aload_n kF0, 0)) rfl) rfl rfl ?_
  refine w_alu (pc' := 14) (st' := [.int (Int32.ofInt 0), .ref 170]) (ykc_255 (e := (0, .iconst 0, 0)) rfl) rfl rfl ?_
  refine w_pf (pc' := 17) (ykc_255 (e := (5, .putfield 392, 0)) rfl) rfl rfl (fun ph1522 u1521 => ?_)
  refine w_alu (pc' := 18) (st' := [.int (Int32.ofInt 1)]) (ykc_255 (e := (0, .iconst 1, 0)) rfl) rfl rfl ?_
  refine w_store (pc' := 19) (L' := [some (.ref 170), some (.int (zn ln)), some (.int (Int32.ofInt 1)), none, none]) (st' := []) (m := 1) (ykc_255 (e := (3, .istore_n kF2, 0)) rfl) rfl rfl ?_
  have F0 : zFr [185, 186, 187, 188] [(170, 0), (170, 14), (170, 15), (170, 16), (170, 17), (170, 34)] ph ph1522 := (show zFr [185, 186, 187, 188] [(170, 0), (170, 14), (170, 15), (170, 16), (170, 17), (170, 34)] ph ph1522 from (zFr_trans (zFr_trans (zFr_st u1517 (Or.inr (by simp))) (zFr_mono f1 (by simp) (by simp))) (zFr_st u1521 (Or.inr (by simp)))))
  have g34 := u1521.1
  have hT1 := zTm_F (zFr_st u1521 (Or.inr (by simp)) : zFr [] [(170, 34)] _ _) (by simp) (by simp) (by simp) hT
  have g0 : zc ph1522 170 0 = some (.int (zn 0)) := (u1521.2.1 170 0 (fun q => absurd q.2 (by decide))).trans ((f1.1 170 0 (by decide) (by decide)).trans u1517.1)
  have g14 : zc ph1522 170 14 = some (.int (zn 0)) := (u1521.2.1 170 14 (fun q => absurd q.2 (by decide))).trans h14
  have hl1 : ∀ (n : Nat), ∀ (k a : Nat) (p : pm_H), (zFr [185, 186, 187, 188] [(170, 15), (170, 34)] ph1522 p) → (zTm p a (min ln 60) ln t) → (zc p 170 34 = some (.int (zn k))) → (zDok (min ln 60) t k) → (zDp t k = a) → (zEd p t k) → zW n D 255 Q 19 [some (.ref 170), some (.int (zn ln)), some (.int (Int32.ofInt 1)), none, none] [] p := by
    intro n
    induction n using Nat.strongRecOn with
    | ind n ih =>
      intro k a p hf hTa h34 hok hka hD
      have hab := hTa.2.2.1
      have hge := zDp_ge hok
      have tk := znt (k := k) (by omega)
      have ta := znt (k := a) (by omega)
      have tb := znt (k := min ln 60) (by omega)
      have F2 : zFr [185, 186, 187, 188] [(170, 0), (170, 14), (170, 15), (170, 16), (170, 17), (170, 34)] ph p := zFr_trans F0 (zFr_mono hf (by simp) (by simp))
      have hSp := zSh_F F2 (by decide +kernel) hS
      refine w_load (pc' := 20) (v := .int (Int32.ofInt 1)) (m := 1) (ykc_255 (e := (2, .iload_n kF2, 0)) rfl) rfl rfl ?_
      refine w_zeq (ykc_255 (e := (4, .ifCond .eq 22, 42)) rfl) rfl (fun q => by exfalso; omega) (fun b1523 => ?_)
      refine w_load (pc' := 24) (v := .ref 170) (m := 1) (ykc_255 (e := (2, .aload_n kF0, 0)) rfl) rfl rfl ?_
      refine w_gf (pc' := 27) (v := .int (zn a)) (ykc_255 (e := (5, .getfield 139, 0)) rfl) rfl hTa.1 rfl ?_
      refine w_load (pc' := 28) (v := .ref 170) (m := 1) (ykc_255 (e := (2, .aload_n kF0, 0)) rfl) rfl rfl ?_
      refine w_gf (pc' := 31) (v := .int (zn (min ln 60))) (ykc_255 (e := (5, .getfield 151, 0)) rfl) rfl hTa.2.1 rfl ?_
      refine w_ige (ykc_255 (e := (4, .if_icmp .ge 11, 42)) rfl) rfl (fun b1524 => ?_) (fun b1524 => ?_)
      · refine w_load (pc' := 43) (v := .ref 170) (m := 1) (ykc_255 (e := (2, .aload_n kF0, 0)) rfl) rfl rfl ?_
        refine w_load (pc' := 44) (v := .int (zn ln)) (m := 1) (ykc_255 (e := (2, .iload_n kF1, 0)) rfl) rfl rfl ?_
        refine w_push (pc' := 46) (v := .int ((Int8.ofInt 60).toInt32)) (m := 2) (ykc_255 (e := (1, .bipush 60, 0)) rfl) rfl rfl ?_
        refine w_load (pc' := 47) (v := .int (Int32.ofInt 1)) (m := 1) (ykc_255 (e := (2, .iload_n kF2, 0)) rfl) rfl rfl ?_
        have ea : a = min ln 60 := by omega
        have ho : zDo (min ln 60) t true a k := ⟨hok, Or.inl ⟨rfl, ea, by omega⟩⟩
        refine w_cv (as := [.ref 170, .int (zn ln), .int ((Int8.ofInt 60).toInt32), .int (Int32.ofInt 1)]) (r := []) (ykc_255 (e := (6, .invokevirtual 213, 0)) rfl) rfl rfl rfl rfl (zm_fault (is := true) (n9 := ln) (c := 60) hSp hTa (by omega) (by decide)) (fun v1525 ph1526 hv => ?_)
        rcases hv with ⟨rfl, z9, rfl, hz9⟩
        · rw [zFo_t] at hz9
          have hzc : (60 < ln ∧ z9.toInt = -1 - (a : Int)) ∨ (ln ≤ 60 ∧ z9.toInt = 0) := by
            split at hz9
            · omega
            · first | omega | (rw [if_pos ea] at hz9; omega)
          show zW n D 255 Q 50 [some (.ref 170), some (.int (zn ln)), some (.int (Int32.ofInt 1)), none, none] [.int z9] p
          refine w_store (pc' := 51) (L' := [some (.ref 170), some (.int (zn ln)), some (.int (Int32.ofInt 1)), some (.int z9), none]) (st' := []) (m := 1) (ykc_255 (e := (3, .istore_n kF3, 0)) rfl) rfl rfl ?_
          refine w_load (pc' := 52) (v := .int z9) (m := 1) (ykc_255 (e := (2, .iload_n kF3, 0)) rfl) rfl rfl ?_
          refine w_zge (ykc_255 (e := (4, .ifCond .ge 5, 57)) rfl) rfl (fun b1527 => ?_) (fun b1527 => ?_)
          · refine w_load (pc' := 58) (v := .ref 170) (m := 1) (ykc_255 (e := (2, .aload_n kF0, 0)) rfl) rfl rfl ?_
            have hv1 := zNr_F F2 (by simp) (by simp) hv
            have hU1 := zMu_F F2 (by simp) (by simp) (by simp) hU
            have hln : ln ≤ 60 := by omega
            refine w_cv (as := [.ref 170]) (r := []) (ykc_255 (e := (6, .invokevirtual 363, 0)) rfl) rfl rfl rfl rfl (zm_putsBy hSp hv1 hU1.1 hu15) (fun v1528 ph1529 hv => ?_)
            rcases hv with ⟨rfl, fp, gp, op⟩
            · show zW n D 255 Q 61 [some (.ref 170), some (.int (zn ln)), some (.int (Int32.ofInt 1)), some (.int z9), none] [] ph1529
              refine w_alu (pc' := 62) (st' := [.int (Int32.ofInt 0)]) (ykc_255 (e := (0, .iconst 0, 0)) rfl) rfl rfl ?_
              refine w_store (pc' := 64) (L' := [some (.ref 170), some (.int (zn ln)), some (.int (Int32.ofInt 1)), some (.int z9), some (.int (Int32.ofInt 0))]) (st' := []) (m := 2) (ykc_255 (e := (3, .istore 4, 0)) rfl) rfl rfl ?_
              have hr := zWp_r hU1.2.2 gp op
              have F3 : zFr [183, 185, 186, 187, 188] [(170, 0), (170, 14), (170, 15), (170, 16), (170, 17), (170, 34)] ph ph1529 := zFr_trans (zFr_mono F2 (by simp) (by simp)) (zFr_mono fp (by simp) (by simp))
              have hv2 := zNr_F fp (by simp) (by simp) hv1
              have hD3 := zEd_F fp (by simp) (by simp) hD
              have h34b := (fp.1 170 34 (by decide) (by decide)).trans h34
              have hl2 : ∀ (n : Nat), ∀ (i : Nat) (v2 : Nat → Nat) (p2 : pm_H), (i ≤ k) → (zFr [174, 181, 182, 184] [] ph1529 p2) → (zNr p2 174 0 v2) → (zAr E P G v t i = some v2) → zW n D 255 Q 64 [some (.ref 170), some (.int (zn ln)), some (.int (Int32.ofInt 1)), some (.int z9), some (.int (zn i))] [] p2 := by
                intro n
                induction n using Nat.strongRecOn with
                | ind n ih =>
                  intro i v2 p2 hi hf2 hv3 hr2
                  have ti := znt (k := i) (by omega)
                  have F4 : zFr [174, 181, 182, 183, 184, 185, 186, 187, 188] [(170, 0), (170, 14), (170, 15), (170, 16), (170, 17), (170, 34)] ph p2 := zFr_trans (zFr_mono F3 (by simp) (by simp)) (zFr_mono hf2 (by simp) (by simp))
                  have hS4 := zSh_F F4 (by decide +kernel) hS
                  obtain ⟨hO2, h402⟩ := zAr_ok hO hP8 hG8 hok (by omega) i hi hr2
                  have h34c := (hf2.1 170 34 (by decide) (by decide)).trans h34b
                  refine w_load (pc' := 66) (v := .int (zn i)) (m := 2) (ykc_255 (e := (2, .iload 4, 0)) rfl) rfl rfl ?_
                  refine w_load (pc' := 67) (v := .ref 170) (m := 1) (ykc_255 (e := (2, .aload_n kF0, 0)) rfl) rfl rfl ?_
                  refine w_gf (pc' := 70) (v := .int (zn k)) (ykc_255 (e := (5, .getfield 392, 0)) rfl) rfl h34c rfl ?_
                  refine w_ige (ykc_255 (e := (4, .if_icmp .ge 18, 88)) rfl) rfl (fun b1530 => ?_) (fun b1530 => ?_)
                  · have has : zAs2 E P G v t k i v2 := ⟨hi, hr2, fun q => absurd q (by omega)⟩
                    have F5 := F4
                    have FX := hf2
                    have hv5 := hv3
                    have hS5 := zSh_F F5 (by decide +kernel) hS
                    have h34d := (FX.1 170 34 (by decide) (by decide)).trans h34b
                    refine w_load (pc' := 89) (v := .ref 170) (m := 1) (ykc_255 (e := (2, .aload_n kF0, 0)) rfl) rfl rfl ?_
                    refine w_alu (pc' := 90) (st' := [.int (Int32.ofInt 0), .ref 170]) (ykc_255 (e := (0, .iconst 0, 0)) rfl) rfl rfl ?_
                    refine w_pf (pc' := 93) (ykc_255 (e := (5, .putfield 15, 0)) rfl) rfl rfl (fun ph1532 u1531 => ?_)
                    refine w_load (pc' := 94) (v := .ref 170) (m := 1) (ykc_255 (e := (2, .aload_n kF0, 0)) rfl) rfl rfl ?_
                    refine w_load (pc' := 96) (v := .int (zn i)) (m := 2) (ykc_255 (e := (2, .iload 4, 0)) rfl) rfl rfl ?_
                    refine w_load (pc' := 97) (v := .ref 170) (m := 1) (ykc_255 (e := (2, .aload_n kF0, 0)) rfl) rfl rfl ?_
                    refine w_gf (pc' := 100) (v := .int (zn k)) (ykc_255 (e := (5, .getfield 392, 0)) rfl) rfl ((u1531.2.1 170 34 (fun q => absurd q.2 (by decide))).trans h34d) rfl ?_
                    refine w_ige (ykc_255 (e := (4, .if_icmp .ge 7, 107)) rfl) rfl (fun b1533 => ?_) (fun b1533 => ?_)
                    · refine w_alu (pc' := 108) (st' := [.int (Int32.ofInt 0), .ref 170]) (ykc_255 (e := (0, .iconst 0, 0)) rfl) rfl rfl ?_
                      refine w_cs (as := [.int (Int32.ofInt 0)]) (r := [.ref 170]) (ykc_255 (e := (6, .invokestatic 154, 0)) rfl) rfl rfl rfl rfl (zm_flag0) (fun v1534 ph1535 hv => ?_)
                      obtain ⟨rfl, rfl⟩ := hv
                      show zW n D 255 Q 111 [some (.ref 170), some (.int (zn ln)), some (.int (Int32.ofInt 1)), some (.int z9), some (.int (zn i))] [.int (zI false), .ref 170] ph1532
                      refine w_alu (pc' := 112) (st' := [.long ((zI false).toInt64), .ref 170]) (ykc_255 (e := (0, .i2l, 0)) rfl) rfl rfl ?_
                      refine w_cv (as := [.ref 170, .long ((zI false).toInt64)]) (r := []) (ykc_255 (e := (6, .invokevirtual 373, 0)) rfl) rfl rfl rfl rfl (zm_enter (zSh_F (show zFr [171] [(170, 1)] p2 ph1532 from (zFr_st u1531 (Or.inr (by simp)))) (by decide +kernel) hS5) (k := 0) u1531.1 (by decide)) (fun v1536 ph1537 hv => ?_)
                      obtain ⟨rfl, fe1, ge1⟩ := hv
                      show zW n D 255 Q 115 [some (.ref 170), some (.int (zn ln)), some (.int (Int32.ofInt 1)), some (.int z9), some (.int (zn i))] [] ph1537
                      refine w_load (pc' := 116) (v := .ref 170) (m := 1) (ykc_255 (e := (2, .aload_n kF0, 0)) rfl) rfl rfl ?_
                      refine w_load (pc' := 117) (v := .ref 170) (m := 1) (ykc_255 (e := (2, .aload_n kF0, 0)) rfl) rfl rfl ?_
                      refine w_gf (pc' := 120) (v := .ref 174) (ykc_255 (e := (5, .getfield 41, 0)) rfl) rfl ((fe1.1 170 11 (by decide) (by decide)).trans ((u1531.2.1 170 11 (fun q => absurd q.2 (by decide))).trans (zsg hS5 zs_170_11))) rfl ?_
                      refine w_push (pc' := 122) (v := .int ((Int8.ofInt 40).toInt32)) (m := 2) (ykc_255 (e := (1, .bipush 40, 0)) rfl) rfl rfl ?_
                      refine w_ialk (pc' := 123) (k := 40) (ykc_255 (e := (5, .iaload, 0)) rfl) ((fe1.1 174 40 (by decide) (by decide)).trans ((u1531.2.1 174 40 (fun q => absurd q.1 (by decide))).trans (zNr0 hv5 (i := 40) (by decide)))) (by omega) rfl ?_
                      refine w_alu (pc' := 124) (st' := [.long ((zn (v2 40)).toInt64), .ref 170]) (ykc_255 (e := (0, .i2l, 0)) rfl) rfl rfl ?_
                      refine w_cv (as := [.ref 170, .long ((zn (v2 40)).toInt64)]) (r := []) (ykc_255 (e := (6, .invokevirtual 373, 0)) rfl) rfl rfl rfl rfl (zm_enter (zSh_F (show zFr [171] [(170, 1)] p2 ph1537 from (zFr_trans (zFr_st u1531 (Or.inr (by simp))) (zFr_mono fe1 (by simp) (by simp)))) (by decide +kernel) hS5) (k := 1) ge1 (by decide)) (fun v1538 ph1539 hv => ?_)
                      obtain ⟨rfl, fe2, ge2⟩ := hv
                      show zW n D 255 Q 127 [some (.ref 170), some (.int (zn ln)), some (.int (Int32.ofInt 1)), some (.int z9), some (.int (zn i))] [] ph1539
                      refine w_load (pc' := 129) (v := .int (zn i)) (m := 2) (ykc_255 (e := (2, .iload 4, 0)) rfl) rfl rfl ?_
                      refine w_zle (ykc_255 (e := (4, .ifCond .le 12, 141)) rfl) rfl (fun b1540 => ?_) (fun b1540 => ?_)
                      · refine w_alu (pc' := 142) (st' := [.int (Int32.ofInt 0)]) (ykc_255 (e := (0, .iconst 0, 0)) rfl) rfl rfl ?_
                        refine w_ret (v := (some (.int (Int32.ofInt 0)))) (ykc_255 (e := (7, .ireturn, 0)) rfl) (zr_v rfl) ?_
                        have F9 := (show zFr [171] [(170, 1)] p2 ph1539 from (zFr_trans (zFr_trans (zFr_st u1531 (Or.inr (by simp))) (zFr_mono fe1 (by simp) (by simp))) (zFr_mono fe2 (by simp) (by simp))))
                        have F8 : zFr [171, 174, 181, 182, 183, 184, 185, 186, 187, 188] [(170, 0), (170, 1), (170, 14), (170, 15), (170, 16), (170, 17), (170, 27), (170, 34)] ph ph1539 := zFr_trans (zFr_mono F5 (by simp) (by simp)) (zFr_mono F9 (by simp) (by simp))
                        have F7 : zFr [171, 174, 181, 182, 183, 184, 185, 186, 187, 188] [(170, 0), (170, 1), (170, 14), (170, 15), (170, 16), (170, 17), (170, 34)] ph ph1539 := zFr_trans (zFr_mono F5 (by simp) (by simp)) (zFr_mono F9 (by simp) (by simp))
                        have ei : i = 0 := by omega
                        rw [hQ]
                        exact ⟨F8, (F9.1 170 0 (by decide) (by decide)).trans ((FX.1 170 0 (by decide) (by decide)).trans ((fp.1 170 0 (by decide) (by decide)).trans ((hf.1 170 0 (by decide) (by decide)).trans g0))), (F9.1 170 14 (by decide) (by decide)).trans ((FX.1 170 14 (by decide) (by decide)).trans ((fp.1 170 14 (by decide) (by decide)).trans ((hf.1 170 14 (by decide) (by decide)).trans g14))), true, a, k, _, ho, rfl, Or.inr ⟨rfl, hln, i, v2, has, by rw [ei]; decide, Or.inl ⟨ei, zMl_F F7 (by simp) (by simp) (by simp) (by simp) hL, zMp_F F7 (by simp) (by simp) (by simp) hN, zNr_F F9 (by simp) (by simp) hv5, ⟨(F7.1 170 27 (by decide) (by decide)).trans hU.1, hu15, fun j hj => (zUr_F F9 (by simp) (by simp) (zUr_F FX (by simp) (by simp) hr)) j (by omega) |> fun h => (by
                          have h2 := h
                          rw [zWp_lt hj] at h2
                          exact h2)⟩, zMk_F F7 (by simp) (by simp) (by simp) hk9, zMh_F F7 (by simp) (by simp) hh⟩⟩⟩
                      · refine w_load (pc' := 133) (v := .ref 170) (m := 1) (ykc_255 (e := (2, .aload_n kF0, 0)) rfl) rfl rfl ?_
                        refine w_load (pc' := 135) (v := .int (zn i)) (m := 2) (ykc_255 (e := (2, .iload 4, 0)) rfl) rfl rfl ?_
                        refine w_cv (as := [.ref 170, .int (zn i)]) (r := []) (ykc_255 (e := (6, .invokevirtual 341, 0)) rfl) rfl rfl rfl rfl (zm_adds (x := zn i) (zSh_F (show zFr [171] [(170, 1)] p2 ph1539 from (zFr_trans (zFr_trans (zFr_st u1531 (Or.inr (by simp))) (zFr_mono fe1 (by simp) (by simp))) (zFr_mono fe2 (by simp) (by simp)))) (by decide +kernel) hS5) (((show zFr [171] [(170, 1)] p2 ph1539 from (zFr_trans (zFr_trans (zFr_st u1531 (Or.inr (by simp))) (zFr_mono fe1 (by simp) (by simp))) (zFr_mono fe2 (by simp) (by simp)))).1 170 27 (by decide) (by decide)).trans ((F5.1 170 27 (by decide) (by decide)).trans hU.1)) hu15 (zUr_F (show zFr [171] [(170, 1)] p2 ph1539 from (zFr_trans (zFr_trans (zFr_st u1531 (Or.inr (by simp))) (zFr_mono fe1 (by simp) (by simp))) (zFr_mono fe2 (by simp) (by simp)))) (by simp) (by simp) (zUr_F FX (by simp) (by simp) hr))) (fun v1541 ph1542 hv => ?_)
                        obtain ⟨rfl, fa, ga, ra⟩ := hv
                        have fb := (show zFr [171] [(170, 1)] p2 ph1539 from (zFr_trans (zFr_trans (zFr_st u1531 (Or.inr (by simp))) (zFr_mono fe1 (by simp) (by simp))) (zFr_mono fe2 (by simp) (by simp))))
                        show zW n D 255 Q 138 [some (.ref 170), some (.int (zn ln)), some (.int (Int32.ofInt 1)), some (.int z9), some (.int (zn i))] [.int (zn i)] ph1542
                        refine w_br (pc' := 142) (st' := [.int (zn i)]) (ykc_255 (e := (4, .goto 4, 142)) rfl) rfl ?_
                        refine w_ret (v := (some (.int (zn i)))) (ykc_255 (e := (7, .ireturn, 0)) rfl) (zr_v rfl) ?_
                        have F9 : zFr [171, 183] [(170, 1), (170, 27)] p2 ph1542 := zFr_trans (zFr_mono fb (by simp) (by simp)) (zFr_mono fa (by simp) (by simp))
                        have F8 : zFr [171, 174, 181, 182, 183, 184, 185, 186, 187, 188] [(170, 0), (170, 1), (170, 14), (170, 15), (170, 16), (170, 17), (170, 27), (170, 34)] ph ph1542 := zFr_trans (zFr_mono F5 (by simp) (by simp)) (zFr_mono F9 (by simp) (by simp))
                        rw [hQ]
                        exact ⟨F8, (F9.1 170 0 (by decide) (by decide)).trans ((FX.1 170 0 (by decide) (by decide)).trans ((fp.1 170 0 (by decide) (by decide)).trans ((hf.1 170 0 (by decide) (by decide)).trans g0))), (F9.1 170 14 (by decide) (by decide)).trans ((FX.1 170 14 (by decide) (by decide)).trans ((fp.1 170 14 (by decide) (by decide)).trans ((hf.1 170 14 (by decide) (by decide)).trans g14))), true, a, k, _, ho, rfl, Or.inr ⟨rfl, hln, i, v2, has, ti, Or.inr ⟨by omega, zMl_F F8 (by simp) (by simp) (by simp) (by simp) hL, zMp_F F8 (by simp) (by simp) (by simp) hN, zNr_F F9 (by simp) (by simp) hv5, ⟨ga, zAd_15 hu15, ra⟩, zMk_F F8 (by simp) (by simp) (by simp) hk9, zMh_F F8 (by simp) (by simp) hh⟩⟩⟩
                    · refine w_alu (pc' := 104) (st' := [.int (Int32.ofInt 1), .ref 170]) (ykc_255 (e := (0, .iconst 1, 0)) rfl) rfl rfl ?_
                      refine w_br (pc' := 108) (st' := [.int (Int32.ofInt 1), .ref 170]) (ykc_255 (e := (4, .goto 4, 108)) rfl) rfl ?_
                      refine w_cs (as := [.int (Int32.ofInt 1)]) (r := [.ref 170]) (ykc_255 (e := (6, .invokestatic 154, 0)) rfl) rfl rfl rfl rfl (zm_flag1) (fun v1543 ph1544 hv => ?_)
                      obtain ⟨rfl, rfl⟩ := hv
                      show zW n D 255 Q 111 [some (.ref 170), some (.int (zn ln)), some (.int (Int32.ofInt 1)), some (.int z9), some (.int (zn i))] [.int (zI true), .ref 170] ph1532
                      refine w_alu (pc' := 112) (st' := [.long ((zI true).toInt64), .ref 170]) (ykc_255 (e := (0, .i2l, 0)) rfl) rfl rfl ?_
                      refine w_cv (as := [.ref 170, .long ((zI true).toInt64)]) (r := []) (ykc_255 (e := (6, .invokevirtual 373, 0)) rfl) rfl rfl rfl rfl (zm_enter (zSh_F (show zFr [171] [(170, 1)] p2 ph1532 from (zFr_st u1531 (Or.inr (by simp)))) (by decide +kernel) hS5) (k := 0) u1531.1 (by decide)) (fun v1545 ph1546 hv => ?_)
                      obtain ⟨rfl, fe1, ge1⟩ := hv
                      show zW n D 255 Q 115 [some (.ref 170), some (.int (zn ln)), some (.int (Int32.ofInt 1)), some (.int z9), some (.int (zn i))] [] ph1546
                      refine w_load (pc' := 116) (v := .ref 170) (m := 1) (ykc_255 (e := (2, .aload_n kF0, 0)) rfl) rfl rfl ?_
                      refine w_load (pc' := 117) (v := .ref 170) (m := 1) (ykc_255 (e := (2, .aload_n kF0, 0)) rfl) rfl rfl ?_
                      refine w_gf (pc' := 120) (v := .ref 174) (ykc_255 (e := (5, .getfield 41, 0)) rfl) rfl ((fe1.1 170 11 (by decide) (by decide)).trans ((u1531.2.1 170 11 (fun q => absurd q.2 (by decide))).trans (zsg hS5 zs_170_11))) rfl ?_
                      refine w_push (pc' := 122) (v := .int ((Int8.ofInt 40).toInt32)) (m := 2) (ykc_255 (e := (1, .bipush 40, 0)) rfl) rfl rfl ?_
                      refine w_ialk (pc' := 123) (k := 40) (ykc_255 (e := (5, .iaload, 0)) rfl) ((fe1.1 174 40 (by decide) (by decide)).trans ((u1531.2.1 174 40 (fun q => absurd q.1 (by decide))).trans (zNr0 hv5 (i := 40) (by decide)))) (by omega) rfl ?_
                      refine w_alu (pc' := 124) (st' := [.long ((zn (v2 40)).toInt64), .ref 170]) (ykc_255 (e := (0, .i2l, 0)) rfl) rfl rfl ?_
                      refine w_cv (as := [.ref 170, .long ((zn (v2 40)).toInt64)]) (r := []) (ykc_255 (e := (6, .invokevirtual 373, 0)) rfl) rfl rfl rfl rfl (zm_enter (zSh_F (show zFr [171] [(170, 1)] p2 ph1546 from (zFr_trans (zFr_st u1531 (Or.inr (by simp))) (zFr_mono fe1 (by simp) (by simp)))) (by decide +kernel) hS5) (k := 1) ge1 (by decide)) (fun v1547 ph1548 hv => ?_)
                      obtain ⟨rfl, fe2, ge2⟩ := hv
                      show zW n D 255 Q 127 [some (.ref 170), some (.int (zn ln)), some (.int (Int32.ofInt 1)), some (.int z9), some (.int (zn i))] [] ph1548
                      refine w_load (pc' := 129) (v := .int (zn i)) (m := 2) (ykc_255 (e := (2, .iload 4, 0)) rfl) rfl rfl ?_
                      refine w_zle (ykc_255 (e := (4, .ifCond .le 12, 141)) rfl) rfl (fun b1549 => ?_) (fun b1549 => ?_)
                      · refine w_alu (pc' := 142) (st' := [.int (Int32.ofInt 0)]) (ykc_255 (e := (0, .iconst 0, 0)) rfl) rfl rfl ?_
                        refine w_ret (v := (some (.int (Int32.ofInt 0)))) (ykc_255 (e := (7, .ireturn, 0)) rfl) (zr_v rfl) ?_
                        have F9 := (show zFr [171] [(170, 1)] p2 ph1548 from (zFr_trans (zFr_trans (zFr_st u1531 (Or.inr (by simp))) (zFr_mono fe1 (by simp) (by simp))) (zFr_mono fe2 (by simp) (by simp))))
                        have F8 : zFr [171, 174, 181, 182, 183, 184, 185, 186, 187, 188] [(170, 0), (170, 1), (170, 14), (170, 15), (170, 16), (170, 17), (170, 27), (170, 34)] ph ph1548 := zFr_trans (zFr_mono F5 (by simp) (by simp)) (zFr_mono F9 (by simp) (by simp))
                        have F7 : zFr [171, 174, 181, 182, 183, 184, 185, 186, 187, 188] [(170, 0), (170, 1), (170, 14), (170, 15), (170, 16), (170, 17), (170, 34)] ph ph1548 := zFr_trans (zFr_mono F5 (by simp) (by simp)) (zFr_mono F9 (by simp) (by simp))
                        have ei : i = 0 := by omega
                        rw [hQ]
                        exact ⟨F8, (F9.1 170 0 (by decide) (by decide)).trans ((FX.1 170 0 (by decide) (by decide)).trans ((fp.1 170 0 (by decide) (by decide)).trans ((hf.1 170 0 (by decide) (by decide)).trans g0))), (F9.1 170 14 (by decide) (by decide)).trans ((FX.1 170 14 (by decide) (by decide)).trans ((fp.1 170 14 (by decide) (by decide)).trans ((hf.1 170 14 (by decide) (by decide)).trans g14))), true, a, k, _, ho, rfl, Or.inr ⟨rfl, hln, i, v2, has, by rw [ei]; decide, Or.inl ⟨ei, zMl_F F7 (by simp) (by simp) (by simp) (by simp) hL, zMp_F F7 (by simp) (by simp) (by simp) hN, zNr_F F9 (by simp) (by simp) hv5, ⟨(F7.1 170 27 (by decide) (by decide)).trans hU.1, hu15, fun j hj => (zUr_F F9 (by simp) (by simp) (zUr_F FX (by simp) (by simp) hr)) j (by omega) |> fun h => (by
                          have h2 := h
                          rw [zWp_lt hj] at h2
                          exact h2)⟩, zMk_F F7 (by simp) (by simp) (by simp) hk9, zMh_F F7 (by simp) (by simp) hh⟩⟩⟩
                      · refine w_load (pc' := 133) (v := .ref 170) (m := 1) (ykc_255 (e := (2, .aload_n kF0, 0)) rfl) rfl rfl ?_
                        refine w_load (pc' := 135) (v := .int (zn i)) (m := 2) (ykc_255 (e := (2, .iload 4, 0)) rfl) rfl rfl ?_
                        refine w_cv (as := [.ref 170, .int (zn i)]) (r := []) (ykc_255 (e := (6, .invokevirtual 341, 0)) rfl) rfl rfl rfl rfl (zm_adds (x := zn i) (zSh_F (show zFr [171] [(170, 1)] p2 ph1548 from (zFr_trans (zFr_trans (zFr_st u1531 (Or.inr (by simp))) (zFr_mono fe1 (by simp) (by simp))) (zFr_mono fe2 (by simp) (by simp)))) (by decide +kernel) hS5) (((show zFr [171] [(170, 1)] p2 ph1548 from (zFr_trans (zFr_trans (zFr_st u1531 (Or.inr (by simp))) (zFr_mono fe1 (by simp) (by simp))) (zFr_mono fe2 (by simp) (by simp)))).1 170 27 (by decide) (by decide)).trans ((F5.1 170 27 (by decide) (by decide)).trans hU.1)) hu15 (zUr_F (show zFr [171] [(170, 1)] p2 ph1548 from (zFr_trans (zFr_trans (zFr_st u1531 (Or.inr (by simp))) (zFr_mono fe1 (by simp) (by simp))) (zFr_mono fe2 (by simp) (by simp)))) (by simp) (by simp) (zUr_F FX (by simp) (by simp) hr))) (fun v1550 ph1551 hv => ?_)
                        obtain ⟨rfl, fa, ga, ra⟩ := hv
                        have fb := (show zFr [171] [(170, 1)] p2 ph1548 from (zFr_trans (zFr_trans (zFr_st u1531 (Or.inr (by simp))) (zFr_mono fe1 (by simp) (by simp))) (zFr_mono fe2 (by simp) (by simp))))
                        show zW n D 255 Q 138 [some (.ref 170), some (.int (zn ln)), some (.int (Int32.ofInt 1)), some (.int z9), some (.int (zn i))] [.int (zn i)] ph1551
                        refine w_br (pc' := 142) (st' := [.int (zn i)]) (ykc_255 (e := (4, .goto 4, 142)) rfl) rfl ?_
                        refine w_ret (v := (some (.int (zn i)))) (ykc_255 (e := (7, .ireturn, 0)) rfl) (zr_v rfl) ?_
                        have F9 : zFr [171, 183] [(170, 1), (170, 27)] p2 ph1551 := zFr_trans (zFr_mono fb (by simp) (by simp)) (zFr_mono fa (by simp) (by simp))
                        have F8 : zFr [171, 174, 181, 182, 183, 184, 185, 186, 187, 188] [(170, 0), (170, 1), (170, 14), (170, 15), (170, 16), (170, 17), (170, 27), (170, 34)] ph ph1551 := zFr_trans (zFr_mono F5 (by simp) (by simp)) (zFr_mono F9 (by simp) (by simp))
                        rw [hQ]
                        exact ⟨F8, (F9.1 170 0 (by decide) (by decide)).trans ((FX.1 170 0 (by decide) (by decide)).trans ((fp.1 170 0 (by decide) (by decide)).trans ((hf.1 170 0 (by decide) (by decide)).trans g0))), (F9.1 170 14 (by decide) (by decide)).trans ((FX.1 170 14 (by decide) (by decide)).trans ((fp.1 170 14 (by decide) (by decide)).trans ((hf.1 170 14 (by decide) (by decide)).trans g14))), true, a, k, _, ho, rfl, Or.inr ⟨rfl, hln, i, v2, has, ti, Or.inr ⟨by omega, zMl_F F8 (by simp) (by simp) (by simp) (by simp) hL, zMp_F F8 (by simp) (by simp) (by simp) hN, zNr_F F9 (by simp) (by simp) hv5, ⟨ga, zAd_15 hu15, ra⟩, zMk_F F8 (by simp) (by simp) (by simp) hk9, zMh_F F8 (by simp) (by simp) hh⟩⟩⟩
                    
                  · refine w_load (pc' := 74) (v := .ref 170) (m := 1) (ykc_255 (e := (2, .aload_n kF0, 0)) rfl) rfl rfl ?_
                    refine w_load (pc' := 76) (v := .int (zn i)) (m := 2) (ykc_255 (e := (2, .iload 4, 0)) rfl) rfl rfl ?_
                    refine w_cv (as := [.ref 170, .int (zn i)]) (r := []) (ykc_255 (e := (6, .invokevirtual 400, 0)) rfl) rfl rfl rfl rfl (zm_doesR (b := min ln 60) (k := k) hS4 (zMe_F4 F4 hE) (zMp_F F4 (by simp) (by simp) (by simp) hN) hv3 hO2 (by omega) (zEd_F hf2 (by simp) (by simp) hD3) hok (by omega) ti (by omega)) (fun v1552 ph1553 hv => ?_)
                    rcases hv with ⟨fd, ⟨v3, hac, rfl, hv4⟩ | ⟨hac, rfl, hv4⟩⟩
                    · show zW n D 255 Q 79 [some (.ref 170), some (.int (zn ln)), some (.int (Int32.ofInt 1)), some (.int z9), some (.int (zn i))] [.int (zI true)] ph1553
                      refine w_beq (ykc_255 (e := (4, .ifCond .eq 9, 88)) rfl) rfl (fun q => absurd q (by decide)) (fun b1554 => ?_)
                      have e1555 : (zn i) + Int32.ofInt 1 = zn (i + 1) := (zaddN (a := i) (b := 1) (znt (by omega)) c_3 (by omega))
                      have te1555 := znt (k := i + 1) (by omega)
                      refine w_store (pc' := 85) (L' := [some (.ref 170), some (.int (zn ln)), some (.int (Int32.ofInt 1)), some (.int z9), some (.int (zn (i + 1)))]) (st' := []) (m := 3) (ykc_255 (e := (3, .iinc 4 1, 0)) rfl) (by rw [← e1555]; rfl) rfl ?_
                      refine w_gb (ykc_255 (e := (4, .goto (-21), 64)) rfl) (fun k1556 hk1556 => ?_)
                      exact ih k1556 hk1556 (i + 1) v3 _ (by omega) (zFr_trans hf2 (zFr_mono fd (by simp) (by simp))) hv4 (by rw [zAr_s hr2]; exact hac)
                    · have has : zAs2 E P G v t k i v2 := ⟨hi, hr2, fun _ => hac⟩
                      have F5 : zFr [174, 181, 182, 183, 184, 185, 186, 187, 188] [(170, 0), (170, 14), (170, 15), (170, 16), (170, 17), (170, 34)] ph ph1553 := zFr_trans F4 (zFr_mono fd (by simp) (by simp))
                      have FX : zFr [174, 181, 182, 184] [] ph1529 ph1553 := zFr_trans hf2 fd
                      have hv5 := hv4
                      show zW n D 255 Q 79 [some (.ref 170), some (.int (zn ln)), some (.int (Int32.ofInt 1)), some (.int z9), some (.int (zn i))] [.int (zI false)] ph1553
                      refine w_beq (ykc_255 (e := (4, .ifCond .eq 9, 88)) rfl) rfl (fun b1557 => ?_) (fun q => absurd q (by decide))
                      have hS5 := zSh_F F5 (by decide +kernel) hS
                      have h34d := (FX.1 170 34 (by decide) (by decide)).trans h34b
                      refine w_load (pc' := 89) (v := .ref 170) (m := 1) (ykc_255 (e := (2, .aload_n kF0, 0)) rfl) rfl rfl ?_
                      refine w_alu (pc' := 90) (st' := [.int (Int32.ofInt 0), .ref 170]) (ykc_255 (e := (0, .iconst 0, 0)) rfl) rfl rfl ?_
                      refine w_pf (pc' := 93) (ykc_255 (e := (5, .putfield 15, 0)) rfl) rfl rfl (fun ph1559 u1558 => ?_)
                      refine w_load (pc' := 94) (v := .ref 170) (m := 1) (ykc_255 (e := (2, .aload_n kF0, 0)) rfl) rfl rfl ?_
                      refine w_load (pc' := 96) (v := .int (zn i)) (m := 2) (ykc_255 (e := (2, .iload 4, 0)) rfl) rfl rfl ?_
                      refine w_load (pc' := 97) (v := .ref 170) (m := 1) (ykc_255 (e := (2, .aload_n kF0, 0)) rfl) rfl rfl ?_
                      refine w_gf (pc' := 100) (v := .int (zn k)) (ykc_255 (e := (5, .getfield 392, 0)) rfl) rfl ((u1558.2.1 170 34 (fun q => absurd q.2 (by decide))).trans h34d) rfl ?_
                      refine w_ige (ykc_255 (e := (4, .if_icmp .ge 7, 107)) rfl) rfl (fun b1560 => ?_) (fun b1560 => ?_)
                      · refine w_alu (pc' := 108) (st' := [.int (Int32.ofInt 0), .ref 170]) (ykc_255 (e := (0, .iconst 0, 0)) rfl) rfl rfl ?_
                        refine w_cs (as := [.int (Int32.ofInt 0)]) (r := [.ref 170]) (ykc_255 (e := (6, .invokestatic 154, 0)) rfl) rfl rfl rfl rfl (zm_flag0) (fun v1561 ph1562 hv => ?_)
                        obtain ⟨rfl, rfl⟩ := hv
                        show zW n D 255 Q 111 [some (.ref 170), some (.int (zn ln)), some (.int (Int32.ofInt 1)), some (.int z9), some (.int (zn i))] [.int (zI false), .ref 170] ph1559
                        refine w_alu (pc' := 112) (st' := [.long ((zI false).toInt64), .ref 170]) (ykc_255 (e := (0, .i2l, 0)) rfl) rfl rfl ?_
                        refine w_cv (as := [.ref 170, .long ((zI false).toInt64)]) (r := []) (ykc_255 (e := (6, .invokevirtual 373, 0)) rfl) rfl rfl rfl rfl (zm_enter (zSh_F (show zFr [171] [(170, 1)] ph1553 ph1559 from (zFr_st u1558 (Or.inr (by simp)))) (by decide +kernel) hS5) (k := 0) u1558.1 (by decide)) (fun v1563 ph1564 hv => ?_)
                        obtain ⟨rfl, fe1, ge1⟩ := hv
                        show zW n D 255 Q 115 [some (.ref 170), some (.int (zn ln)), some (.int (Int32.ofInt 1)), some (.int z9), some (.int (zn i))] [] ph1564
                        refine w_load (pc' := 116) (v := .ref 170) (m := 1) (ykc_255 (e := (2, .aload_n kF0, 0)) rfl) rfl rfl ?_
                        refine w_load (pc' := 117) (v := .ref 170) (m := 1) (ykc_255 (e := (2, .aload_n kF0, 0)) rfl) rfl rfl ?_
                        refine w_gf (pc' := 120) (v := .ref 174) (ykc_255 (e := (5, .getfield 41, 0)) rfl) rfl ((fe1.1 170 11 (by decide) (by decide)).trans ((u1558.2.1 170 11 (fun q => absurd q.2 (by decide))).trans (zsg hS5 zs_170_11))) rfl ?_
                        refine w_push (pc' := 122) (v := .int ((Int8.ofInt 40).toInt32)) (m := 2) (ykc_255 (e := (1, .bipush 40, 0)) rfl) rfl rfl ?_
                        refine w_ialk (pc' := 123) (k := 40) (ykc_255 (e := (5, .iaload, 0)) rfl) ((fe1.1 174 40 (by decide) (by decide)).trans ((u1558.2.1 174 40 (fun q => absurd q.1 (by decide))).trans (zNr0 hv5 (i := 40) (by decide)))) (by omega) rfl ?_
                        refine w_alu (pc' := 124) (st' := [.long ((zn (v2 40)).toInt64), .ref 170]) (ykc_255 (e := (0, .i2l, 0)) rfl) rfl rfl ?_
                        refine w_cv (as := [.ref 170, .long ((zn (v2 40)).toInt64)]) (r := []) (ykc_255 (e := (6, .invokevirtual 373, 0)) rfl) rfl rfl rfl rfl (zm_enter (zSh_F (show zFr [171] [(170, 1)] ph1553 ph1564 from (zFr_trans (zFr_st u1558 (Or.inr (by simp))) (zFr_mono fe1 (by simp) (by simp)))) (by decide +kernel) hS5) (k := 1) ge1 (by decide)) (fun v1565 ph1566 hv => ?_)
                        obtain ⟨rfl, fe2, ge2⟩ := hv
                        show zW n D 255 Q 127 [some (.ref 170), some (.int (zn ln)), some (.int (Int32.ofInt 1)), some (.int z9), some (.int (zn i))] [] ph1566
                        refine w_load (pc' := 129) (v := .int (zn i)) (m := 2) (ykc_255 (e := (2, .iload 4, 0)) rfl) rfl rfl ?_
                        refine w_zle (ykc_255 (e := (4, .ifCond .le 12, 141)) rfl) rfl (fun b1567 => ?_) (fun b1567 => ?_)
                        · refine w_alu (pc' := 142) (st' := [.int (Int32.ofInt 0)]) (ykc_255 (e := (0, .iconst 0, 0)) rfl) rfl rfl ?_
                          refine w_ret (v := (some (.int (Int32.ofInt 0)))) (ykc_255 (e := (7, .ireturn, 0)) rfl) (zr_v rfl) ?_
                          have F9 := (show zFr [171] [(170, 1)] ph1553 ph1566 from (zFr_trans (zFr_trans (zFr_st u1558 (Or.inr (by simp))) (zFr_mono fe1 (by simp) (by simp))) (zFr_mono fe2 (by simp) (by simp))))
                          have F8 : zFr [171, 174, 181, 182, 183, 184, 185, 186, 187, 188] [(170, 0), (170, 1), (170, 14), (170, 15), (170, 16), (170, 17), (170, 27), (170, 34)] ph ph1566 := zFr_trans (zFr_mono F5 (by simp) (by simp)) (zFr_mono F9 (by simp) (by simp))
                          have F7 : zFr [171, 174, 181, 182, 183, 184, 185, 186, 187, 188] [(170, 0), (170, 1), (170, 14), (170, 15), (170, 16), (170, 17), (170, 34)] ph ph1566 := zFr_trans (zFr_mono F5 (by simp) (by simp)) (zFr_mono F9 (by simp) (by simp))
                          have ei : i = 0 := by omega
                          rw [hQ]
                          exact ⟨F8, (F9.1 170 0 (by decide) (by decide)).trans ((FX.1 170 0 (by decide) (by decide)).trans ((fp.1 170 0 (by decide) (by decide)).trans ((hf.1 170 0 (by decide) (by decide)).trans g0))), (F9.1 170 14 (by decide) (by decide)).trans ((FX.1 170 14 (by decide) (by decide)).trans ((fp.1 170 14 (by decide) (by decide)).trans ((hf.1 170 14 (by decide) (by decide)).trans g14))), true, a, k, _, ho, rfl, Or.inr ⟨rfl, hln, i, v2, has, by rw [ei]; decide, Or.inl ⟨ei, zMl_F F7 (by simp) (by simp) (by simp) (by simp) hL, zMp_F F7 (by simp) (by simp) (by simp) hN, zNr_F F9 (by simp) (by simp) hv5, ⟨(F7.1 170 27 (by decide) (by decide)).trans hU.1, hu15, fun j hj => (zUr_F F9 (by simp) (by simp) (zUr_F FX (by simp) (by simp) hr)) j (by omega) |> fun h => (by
                            have h2 := h
                            rw [zWp_lt hj] at h2
                            exact h2)⟩, zMk_F F7 (by simp) (by simp) (by simp) hk9, zMh_F F7 (by simp) (by simp) hh⟩⟩⟩
                        · refine w_load (pc' := 133) (v := .ref 170) (m := 1) (ykc_255 (e := (2, .aload_n kF0, 0)) rfl) rfl rfl ?_
                          refine w_load (pc' := 135) (v := .int (zn i)) (m := 2) (ykc_255 (e := (2, .iload 4, 0)) rfl) rfl rfl ?_
                          refine w_cv (as := [.ref 170, .int (zn i)]) (r := []) (ykc_255 (e := (6, .invokevirtual 341, 0)) rfl) rfl rfl rfl rfl (zm_adds (x := zn i) (zSh_F (show zFr [171] [(170, 1)] ph1553 ph1566 from (zFr_trans (zFr_trans (zFr_st u1558 (Or.inr (by simp))) (zFr_mono fe1 (by simp) (by simp))) (zFr_mono fe2 (by simp) (by simp)))) (by decide +kernel) hS5) (((show zFr [171] [(170, 1)] ph1553 ph1566 from (zFr_trans (zFr_trans (zFr_st u1558 (Or.inr (by simp))) (zFr_mono fe1 (by simp) (by simp))) (zFr_mono fe2 (by simp) (by simp)))).1 170 27 (by decide) (by decide)).trans ((F5.1 170 27 (by decide) (by decide)).trans hU.1)) hu15 (zUr_F (show zFr [171] [(170, 1)] ph1553 ph1566 from (zFr_trans (zFr_trans (zFr_st u1558 (Or.inr (by simp))) (zFr_mono fe1 (by simp) (by simp))) (zFr_mono fe2 (by simp) (by simp)))) (by simp) (by simp) (zUr_F FX (by simp) (by simp) hr))) (fun v1568 ph1569 hv => ?_)
                          obtain ⟨rfl, fa, ga, ra⟩ := hv
                          have fb := (show zFr [171] [(170, 1)] ph1553 ph1566 from (zFr_trans (zFr_trans (zFr_st u1558 (Or.inr (by simp))) (zFr_mono fe1 (by simp) (by simp))) (zFr_mono fe2 (by simp) (by simp))))
                          show zW n D 255 Q 138 [some (.ref 170), some (.int (zn ln)), some (.int (Int32.ofInt 1)), some (.int z9), some (.int (zn i))] [.int (zn i)] ph1569
                          refine w_br (pc' := 142) (st' := [.int (zn i)]) (ykc_255 (e := (4, .goto 4, 142)) rfl) rfl ?_
                          refine w_ret (v := (some (.int (zn i)))) (ykc_255 (e := (7, .ireturn, 0)) rfl) (zr_v rfl) ?_
                          have F9 : zFr [171, 183] [(170, 1), (170, 27)] ph1553 ph1569 := zFr_trans (zFr_mono fb (by simp) (by simp)) (zFr_mono fa (by simp) (by simp))
                          have F8 : zFr [171, 174, 181, 182, 183, 184, 185, 186, 187, 188] [(170, 0), (170, 1), (170, 14), (170, 15), (170, 16), (170, 17), (170, 27), (170, 34)] ph ph1569 := zFr_trans (zFr_mono F5 (by simp) (by simp)) (zFr_mono F9 (by simp) (by simp))
                          rw [hQ]
                          exact ⟨F8, (F9.1 170 0 (by decide) (by decide)).trans ((FX.1 170 0 (by decide) (by decide)).trans ((fp.1 170 0 (by decide) (by decide)).trans ((hf.1 170 0 (by decide) (by decide)).trans g0))), (F9.1 170 14 (by decide) (by decide)).trans ((FX.1 170 14 (by decide) (by decide)).trans ((fp.1 170 14 (by decide) (by decide)).trans ((hf.1 170 14 (by decide) (by decide)).trans g14))), true, a, k, _, ho, rfl, Or.inr ⟨rfl, hln, i, v2, has, ti, Or.inr ⟨by omega, zMl_F F8 (by simp) (by simp) (by simp) (by simp) hL, zMp_F F8 (by simp) (by simp) (by simp) hN, zNr_F F9 (by simp) (by simp) hv5, ⟨ga, zAd_15 hu15, ra⟩, zMk_F F8 (by simp) (by simp) (by simp) hk9, zMh_F F8 (by simp) (by simp) hh⟩⟩⟩
                      · refine w_alu (pc' := 104) (st' := [.int (Int32.ofInt 1), .ref 170]) (ykc_255 (e := (0, .iconst 1, 0)) rfl) rfl rfl ?_
                        refine w_br (pc' := 108) (st' := [.int (Int32.ofInt 1), .ref 170]) (ykc_255 (e := (4, .goto 4, 108)) rfl) rfl ?_
                        refine w_cs (as := [.int (Int32.ofInt 1)]) (r := [.ref 170]) (ykc_255 (e := (6, .invokestatic 154, 0)) rfl) rfl rfl rfl rfl (zm_flag1) (fun v1570 ph1571 hv => ?_)
                        obtain ⟨rfl, rfl⟩ := hv
                        show zW n D 255 Q 111 [some (.ref 170), some (.int (zn ln)), some (.int (Int32.ofInt 1)), some (.int z9), some (.int (zn i))] [.int (zI true), .ref 170] ph1559
                        refine w_alu (pc' := 112) (st' := [.long ((zI true).toInt64), .ref 170]) (ykc_255 (e := (0, .i2l, 0)) rfl) rfl rfl ?_
                        refine w_cv (as := [.ref 170, .long ((zI true).toInt64)]) (r := []) (ykc_255 (e := (6, .invokevirtual 373, 0)) rfl) rfl rfl rfl rfl (zm_enter (zSh_F (show zFr [171] [(170, 1)] ph1553 ph1559 from (zFr_st u1558 (Or.inr (by simp)))) (by decide +kernel) hS5) (k := 0) u1558.1 (by decide)) (fun v1572 ph1573 hv => ?_)
                        obtain ⟨rfl, fe1, ge1⟩ := hv
                        show zW n D 255 Q 115 [some (.ref 170), some (.int (zn ln)), some (.int (Int32.ofInt 1)), some (.int z9), some (.int (zn i))] [] ph1573
                        refine w_load (pc' := 116) (v := .ref 170) (m := 1) (ykc_255 (e := (2, .aload_n kF0, 0)) rfl) rfl rfl ?_
                        refine w_load (pc' := 117) (v := .ref 170) (m := 1) (ykc_255 (e := (2, .aload_n kF0, 0)) rfl) rfl rfl ?_
                        refine w_gf (pc' := 120) (v := .ref 174) (ykc_255 (e := (5, .getfield 41, 0)) rfl) rfl ((fe1.1 170 11 (by decide) (by decide)).trans ((u1558.2.1 170 11 (fun q => absurd q.2 (by decide))).trans (zsg hS5 zs_170_11))) rfl ?_
                        refine w_push (pc' := 122) (v := .int ((Int8.ofInt 40).toInt32)) (m := 2) (ykc_255 (e := (1, .bipush 40, 0)) rfl) rfl rfl ?_
                        refine w_ialk (pc' := 123) (k := 40) (ykc_255 (e := (5, .iaload, 0)) rfl) ((fe1.1 174 40 (by decide) (by decide)).trans ((u1558.2.1 174 40 (fun q => absurd q.1 (by decide))).trans (zNr0 hv5 (i := 40) (by decide)))) (by omega) rfl ?_
                        refine w_alu (pc' := 124) (st' := [.long ((zn (v2 40)).toInt64), .ref 170]) (ykc_255 (e := (0, .i2l, 0)) rfl) rfl rfl ?_
                        refine w_cv (as := [.ref 170, .long ((zn (v2 40)).toInt64)]) (r := []) (ykc_255 (e := (6, .invokevirtual 373, 0)) rfl) rfl rfl rfl rfl (zm_enter (zSh_F (show zFr [171] [(170, 1)] ph1553 ph1573 from (zFr_trans (zFr_st u1558 (Or.inr (by simp))) (zFr_mono fe1 (by simp) (by simp)))) (by decide +kernel) hS5) (k := 1) ge1 (by decide)) (fun v1574 ph1575 hv => ?_)
                        obtain ⟨rfl, fe2, ge2⟩ := hv
                        show zW n D 255 Q 127 [some (.ref 170), some (.int (zn ln)), some (.int (Int32.ofInt 1)), some (.int z9), some (.int (zn i))] [] ph1575
                        refine w_load (pc' := 129) (v := .int (zn i)) (m := 2) (ykc_255 (e := (2, .iload 4, 0)) rfl) rfl rfl ?_
                        refine w_zle (ykc_255 (e := (4, .ifCond .le 12, 141)) rfl) rfl (fun b1576 => ?_) (fun b1576 => ?_)
                        · refine w_alu (pc' := 142) (st' := [.int (Int32.ofInt 0)]) (ykc_255 (e := (0, .iconst 0, 0)) rfl) rfl rfl ?_
                          refine w_ret (v := (some (.int (Int32.ofInt 0)))) (ykc_255 (e := (7, .ireturn, 0)) rfl) (zr_v rfl) ?_
                          have F9 := (show zFr [171] [(170, 1)] ph1553 ph1575 from (zFr_trans (zFr_trans (zFr_st u1558 (Or.inr (by simp))) (zFr_mono fe1 (by simp) (by simp))) (zFr_mono fe2 (by simp) (by simp))))
                          have F8 : zFr [171, 174, 181, 182, 183, 184, 185, 186, 187, 188] [(170, 0), (170, 1), (170, 14), (170, 15), (170, 16), (170, 17), (170, 27), (170, 34)] ph ph1575 := zFr_trans (zFr_mono F5 (by simp) (by simp)) (zFr_mono F9 (by simp) (by simp))
                          have F7 : zFr [171, 174, 181, 182, 183, 184, 185, 186, 187, 188] [(170, 0), (170, 1), (170, 14), (170, 15), (170, 16), (170, 17), (170, 34)] ph ph1575 := zFr_trans (zFr_mono F5 (by simp) (by simp)) (zFr_mono F9 (by simp) (by simp))
                          have ei : i = 0 := by omega
                          rw [hQ]
                          exact ⟨F8, (F9.1 170 0 (by decide) (by decide)).trans ((FX.1 170 0 (by decide) (by decide)).trans ((fp.1 170 0 (by decide) (by decide)).trans ((hf.1 170 0 (by decide) (by decide)).trans g0))), (F9.1 170 14 (by decide) (by decide)).trans ((FX.1 170 14 (by decide) (by decide)).trans ((fp.1 170 14 (by decide) (by decide)).trans ((hf.1 170 14 (by decide) (by decide)).trans g14))), true, a, k, _, ho, rfl, Or.inr ⟨rfl, hln, i, v2, has, by rw [ei]; decide, Or.inl ⟨ei, zMl_F F7 (by simp) (by simp) (by simp) (by simp) hL, zMp_F F7 (by simp) (by simp) (by simp) hN, zNr_F F9 (by simp) (by simp) hv5, ⟨(F7.1 170 27 (by decide) (by decide)).trans hU.1, hu15, fun j hj => (zUr_F F9 (by simp) (by simp) (zUr_F FX (by simp) (by simp) hr)) j (by omega) |> fun h => (by
                            have h2 := h
                            rw [zWp_lt hj] at h2
                            exact h2)⟩, zMk_F F7 (by simp) (by simp) (by simp) hk9, zMh_F F7 (by simp) (by simp) hh⟩⟩⟩
                        · refine w_load (pc' := 133) (v := .ref 170) (m := 1) (ykc_255 (e := (2, .aload_n kF0, 0)) rfl) rfl rfl ?_
                          refine w_load (pc' := 135) (v := .int (zn i)) (m := 2) (ykc_255 (e := (2, .iload 4, 0)) rfl) rfl rfl ?_
                          refine w_cv (as := [.ref 170, .int (zn i)]) (r := []) (ykc_255 (e := (6, .invokevirtual 341, 0)) rfl) rfl rfl rfl rfl (zm_adds (x := zn i) (zSh_F (show zFr [171] [(170, 1)] ph1553 ph1575 from (zFr_trans (zFr_trans (zFr_st u1558 (Or.inr (by simp))) (zFr_mono fe1 (by simp) (by simp))) (zFr_mono fe2 (by simp) (by simp)))) (by decide +kernel) hS5) (((show zFr [171] [(170, 1)] ph1553 ph1575 from (zFr_trans (zFr_trans (zFr_st u1558 (Or.inr (by simp))) (zFr_mono fe1 (by simp) (by simp))) (zFr_mono fe2 (by simp) (by simp)))).1 170 27 (by decide) (by decide)).trans ((F5.1 170 27 (by decide) (by decide)).trans hU.1)) hu15 (zUr_F (show zFr [171] [(170, 1)] ph1553 ph1575 from (zFr_trans (zFr_trans (zFr_st u1558 (Or.inr (by simp))) (zFr_mono fe1 (by simp) (by simp))) (zFr_mono fe2 (by simp) (by simp)))) (by simp) (by simp) (zUr_F FX (by simp) (by simp) hr))) (fun v1577 ph1578 hv => ?_)
                          obtain ⟨rfl, fa, ga, ra⟩ := hv
                          have fb := (show zFr [171] [(170, 1)] ph1553 ph1575 from (zFr_trans (zFr_trans (zFr_st u1558 (Or.inr (by simp))) (zFr_mono fe1 (by simp) (by simp))) (zFr_mono fe2 (by simp) (by simp))))
                          show zW n D 255 Q 138 [some (.ref 170), some (.int (zn ln)), some (.int (Int32.ofInt 1)), some (.int z9), some (.int (zn i))] [.int (zn i)] ph1578
                          refine w_br (pc' := 142) (st' := [.int (zn i)]) (ykc_255 (e := (4, .goto 4, 142)) rfl) rfl ?_
                          refine w_ret (v := (some (.int (zn i)))) (ykc_255 (e := (7, .ireturn, 0)) rfl) (zr_v rfl) ?_
                          have F9 : zFr [171, 183] [(170, 1), (170, 27)] ph1553 ph1578 := zFr_trans (zFr_mono fb (by simp) (by simp)) (zFr_mono fa (by simp) (by simp))
                          have F8 : zFr [171, 174, 181, 182, 183, 184, 185, 186, 187, 188] [(170, 0), (170, 1), (170, 14), (170, 15), (170, 16), (170, 17), (170, 27), (170, 34)] ph ph1578 := zFr_trans (zFr_mono F5 (by simp) (by simp)) (zFr_mono F9 (by simp) (by simp))
                          rw [hQ]
                          exact ⟨F8, (F9.1 170 0 (by decide) (by decide)).trans ((FX.1 170 0 (by decide) (by decide)).trans ((fp.1 170 0 (by decide) (by decide)).trans ((hf.1 170 0 (by decide) (by decide)).trans g0))), (F9.1 170 14 (by decide) (by decide)).trans ((FX.1 170 14 (by decide) (by decide)).trans ((fp.1 170 14 (by decide) (by decide)).trans ((hf.1 170 14 (by decide) (by decide)).trans g14))), true, a, k, _, ho, rfl, Or.inr ⟨rfl, hln, i, v2, has, ti, Or.inr ⟨by omega, zMl_F F8 (by simp) (by simp) (by simp) (by simp) hL, zMp_F F8 (by simp) (by simp) (by simp) hN, zNr_F F9 (by simp) (by simp) hv5, ⟨ga, zAd_15 hu15, ra⟩, zMk_F F8 (by simp) (by simp) (by simp) hk9, zMh_F F8 (by simp) (by simp) hh⟩⟩⟩
                      
                    
              exact hl2 n 0 v _ (Nat.zero_le _) zFr_refl hv2 rfl
              
            
          · refine w_load (pc' := 56) (v := .int z9) (m := 1) (ykc_255 (e := (2, .iload_n kF3, 0)) rfl) rfl rfl ?_
            refine w_ret (v := (some (.int z9))) (ykc_255 (e := (7, .ireturn, 0)) rfl) (zr_v rfl) ?_
            rw [hQ]
            exact ⟨zFr_mono F2 (by simp) (by simp), (hf.1 170 0 (by decide) (by decide)).trans g0, (hf.1 170 14 (by decide) (by decide)).trans g14, true, a, k, z9, ho, rfl, Or.inl ⟨fun q => absurd q.2 (by omega), by omega, ⟨zMl_F F2 (by simp) (by simp) (by simp) (by simp) hL, zMp_F F2 (by simp) (by simp) (by simp) hN, zNr_F F2 (by simp) (by simp) hv, zMu_F F2 (by simp) (by simp) (by simp) hU, zMk_F F2 (by simp) (by simp) (by simp) hk9, zMh_F F2 (by simp) (by simp) hh⟩⟩⟩
        
      · refine w_load (pc' := 35) (v := .ref 170) (m := 1) (ykc_255 (e := (2, .aload_n kF0, 0)) rfl) rfl rfl ?_
        refine w_cv (as := [.ref 170]) (r := []) (ykc_255 (e := (6, .invokevirtual 397, 0)) rfl) rfl rfl rfl rfl (zm_readsAct hSp hTa h34 (by omega) (by omega)) (fun v1579 ph1580 hv => ?_)
        rcases hv with ⟨fr, gr1, gr2, ⟨rfl, w1, w2, w3, wT, w4, w5, w6, w7⟩ | ⟨rfl, a2, hb2, wT⟩⟩
        · have hg9 : zDg (min ln 60) t k := ⟨by rw [hka]; exact w1, by rw [hka]; exact w2, by rw [hka]; exact w3⟩
          show zW n D 255 Q 38 [some (.ref 170), some (.int (zn ln)), some (.int (Int32.ofInt 1)), none, none] [.int (zI true)] ph1580
          refine w_store (pc' := 39) (L' := [some (.ref 170), some (.int (zn ln)), some (.int (zI true)), none, none]) (st' := []) (m := 1) (ykc_255 (e := (3, .istore_n kF2, 0)) rfl) rfl rfl ?_
          refine w_gb (ykc_255 (e := (4, .goto (-20), 19)) rfl) (fun k1581 hk1581 => ?_)
          exact ih k1581 hk1581 (k + 1) _ _ (zFr_trans hf fr) wT gr1 (zDok_s hok hg9) (by show zDp t k + 1 + zdw (t (zDp t k)) = _; rw [hka]) (fun i hi => by
            by_cases e : i = k
            · subst e
              rw [hka]
              exact ⟨w4, w5, w6, w7⟩
            · obtain ⟨o1, o2, o3, o4⟩ := gr2 i e
              obtain ⟨d1, d2, d3, d4⟩ := hD i (by omega)
              exact ⟨o1.trans d1, o2.trans d2, fun h => o3.trans (d3 h), fun h => o4.trans (d4 h)⟩)
        · show zW n D 255 Q 38 [some (.ref 170), some (.int (zn ln)), some (.int (Int32.ofInt 1)), none, none] [.int (zI false)] ph1580
          refine w_store (pc' := 39) (L' := [some (.ref 170), some (.int (zn ln)), some (.int (zI false)), none, none]) (st' := []) (m := 1) (ykc_255 (e := (3, .istore_n kF2, 0)) rfl) rfl rfl ?_
          refine w_gb (ykc_255 (e := (4, .goto (-20), 19)) rfl) (fun k1582 hk1582 => ?_)
          refine w_load (pc' := 20) (v := .int (zI false)) (m := 1) (ykc_255 (e := (2, .iload_n kF2, 0)) rfl) rfl rfl ?_
          refine w_beq (ykc_255 (e := (4, .ifCond .eq 22, 42)) rfl) rfl (fun b1583 => ?_) (fun q => absurd q (by decide))
          refine w_load (pc' := 43) (v := .ref 170) (m := 1) (ykc_255 (e := (2, .aload_n kF0, 0)) rfl) rfl rfl ?_
          refine w_load (pc' := 44) (v := .int (zn ln)) (m := 1) (ykc_255 (e := (2, .iload_n kF1, 0)) rfl) rfl rfl ?_
          refine w_push (pc' := 46) (v := .int ((Int8.ofInt 60).toInt32)) (m := 2) (ykc_255 (e := (1, .bipush 60, 0)) rfl) rfl rfl ?_
          refine w_load (pc' := 47) (v := .int (zI false)) (m := 1) (ykc_255 (e := (2, .iload_n kF2, 0)) rfl) rfl rfl ?_
          have ho : zDo (min ln 60) t false a2 k := ⟨hok, Or.inr ⟨rfl, by rw [hka]; exact hb2⟩⟩
          have ha2 := zDo_a ho
          have F3 : zFr [185, 186, 187, 188] [(170, 0), (170, 14), (170, 15), (170, 16), (170, 17), (170, 34)] ph ph1580 := zFr_trans F2 (zFr_mono fr (by simp) (by simp))
          refine w_cv (as := [.ref 170, .int (zn ln), .int ((Int8.ofInt 60).toInt32), .int (zI false)]) (r := []) (ykc_255 (e := (6, .invokevirtual 213, 0)) rfl) rfl rfl rfl rfl (zm_fault (is := false) (n9 := ln) (c := 60) (zSh_F F3 (by decide +kernel) hS) wT (by omega) (by decide)) (fun v1584 ph1585 hv => ?_)
          rcases hv with ⟨rfl, z9, rfl, hz9⟩
          · have hzn : z9.toInt = -1 - (a2 : Int) := by
              rw [hz9, zFo_b]
              split <;> omega
            show zW k1582 D 255 Q 50 [some (.ref 170), some (.int (zn ln)), some (.int (zI false)), none, none] [.int z9] ph1580
            refine w_store (pc' := 51) (L' := [some (.ref 170), some (.int (zn ln)), some (.int (zI false)), some (.int z9), none]) (st' := []) (m := 1) (ykc_255 (e := (3, .istore_n kF3, 0)) rfl) rfl rfl ?_
            refine w_load (pc' := 52) (v := .int z9) (m := 1) (ykc_255 (e := (2, .iload_n kF3, 0)) rfl) rfl rfl ?_
            refine w_zge (ykc_255 (e := (4, .ifCond .ge 5, 57)) rfl) rfl (fun q => by exfalso; omega) (fun b1586 => ?_)
            refine w_load (pc' := 56) (v := .int z9) (m := 1) (ykc_255 (e := (2, .iload_n kF3, 0)) rfl) rfl rfl ?_
            refine w_ret (v := (some (.int z9))) (ykc_255 (e := (7, .ireturn, 0)) rfl) (zr_v rfl) ?_
            rw [hQ]
            exact ⟨zFr_mono F3 (by simp) (by simp), (fr.1 170 0 (by decide) (by decide)).trans ((hf.1 170 0 (by decide) (by decide)).trans g0), (fr.1 170 14 (by decide) (by decide)).trans ((hf.1 170 14 (by decide) (by decide)).trans g14), false, a2, k, z9, ho, rfl, Or.inl ⟨fun q => absurd q.1 (by decide), hzn, ⟨zMl_F F3 (by simp) (by simp) (by simp) (by simp) hL, zMp_F F3 (by simp) (by simp) (by simp) hN, zNr_F F3 (by simp) (by simp) hv, zMu_F F3 (by simp) (by simp) (by simp) hU, zMk_F F3 (by simp) (by simp) (by simp) hk9, zMh_F F3 (by simp) (by simp) hh⟩⟩⟩
          
        
  exact hl1 n 0 0 _ zFr_refl hT1 g34 (fun i hi => absurd hi (Nat.not_lt_zero i)) rfl (fun i hi => absurd hi (Nat.not_lt_zero i))
  
theorem zc_plActs {ph : pm_H} {k : Nat} (hk : zc ph 157 2 = some (.int (zn k))) : zM 62 [.ref 157] ph (fun v0 q => ph = q ∧ v0 = some (.int (zn k))) := by
  obtain ⟨Q, hQ⟩ : ∃ Q : Option Value → pm_H → Prop, Q = (fun v0 q => ph = q ∧ v0 = some (.int (zn k))) := ⟨_, rfl⟩
  rw [← hQ]
  refine zM_mk fun n D => ?_
  show zW n D 62 Q 0 [some (.ref 157)] [] ph
  refine w_load (pc' := 1) (v := .ref 157) (m := 1) (ykc_62 (e := (2, .aload_n kF0, 0)) rfl) rfl rfl ?_
  refine w_gf (pc' := 4) (v := .int (zn k)) (ykc_62 (e := (5, .getfield 18, 0)) rfl) rfl hk rfl ?_
  refine w_ret (v := (some (.int (zn k)))) (ykc_62 (e := (7, .ireturn, 0)) rfl) (zr_v rfl) ?_
  rw [hQ]
  exact ⟨rfl, rfl⟩
theorem zCi_F2 {A : List Nat} {L : List (Nat × Nat)} {p q : pm_H} {E : zEn} {F : Nat} (f : zFr A L p q) (h1 : 5 ∉ A ∧ 6 ∉ A ∧ 7 ∉ A ∧ 10 ∉ A ∧ 21 ∉ A ∧ 11 ∉ A ∧ 12 ∉ A ∧ 16 ∉ A ∧ 17 ∉ A) (h2 : ∀ i, i < 4 → (5, i) ∉ L) (h3 : ∀ i, (6, i) ∉ L ∧ (7, i) ∉ L ∧ (21, i) ∉ L ∧ (11, i) ∉ L ∧ (12, i) ∉ L ∧ (16, i) ∉ L ∧ (17, i) ∉ L) (h4 : (10, 4) ∉ L) (h : zCe p E F) : zCe q E F := by
  obtain ⟨a1, a2, a3, a4⟩ := h
  refine ⟨zCl_F f ⟨h1.1, h1.2.1, h1.2.2.1⟩ h2 (fun i => ⟨(h3 i).1, (h3 i).2.1⟩) a1, zCi_F f ⟨h1.2.2.2.1, h1.2.2.2.2.1⟩ ⟨h4, fun i => (h3 i).2.2.1⟩ a2, ?_, a4⟩
  rcases a4 with e | e <;> subst e
  · exact zFm_F f ⟨h1.2.2.2.2.2.1, h1.2.2.2.2.2.2.1⟩ (fun i => ⟨(h3 i).2.2.2.1, (h3 i).2.2.2.2.1⟩) a3
  · exact zFm_F f ⟨h1.2.2.2.2.2.2.2.1, h1.2.2.2.2.2.2.2.2⟩ (fun i => ⟨(h3 i).2.2.2.2.2.1, (h3 i).2.2.2.2.2.2⟩) a3
theorem zCe_pl {p q : pm_H} {E : zEn} {F : Nat} (f : zFr [158, 159] [(157, 2), (1, 1)] p q) (h : zCe p E F) : zCe q E F := zCi_F2 f (by simp) (by intro i hi; simp) (by simp) (by simp) h
theorem zCe_31 {p q : pm_H} {E : zEn} {F : Nat} (f : zCo 31 p q) (h : zCe p E F) : zCe q E F := zCi_F2 f (by simp) (by intro i hi; simp) (by simp) (by simp) h
theorem zCe_fa {p q : pm_H} {E : zEn} {F : Nat} (f : zFr [8, 9, 15, 20, 22, 23, 24, 26, 27, 28, 29, 30] [(5, 4), (25, 2)] p q) (h : zCe p E F) : zCe q E F := zCi_F2 f (by simp) (by intro i hi; simp <;> omega) (by simp) (by simp) h
theorem zCe_n {p q : pm_H} {E : zEn} {F : Nat} (f : zFr [4] [(3, 1)] p q) (h : zCe p E F) : zCe q E F := zCi_F2 f (by simp) (by intro i hi; simp) (by simp) (by simp) h
theorem zCe_q {p q : pm_H} {E : zEn} {F nx : Nat} (hnx : nx < 15) (f : zFr [45 + 6 * nx + 1, 45 + 6 * nx + 2, 45 + 6 * nx + 3, 45 + 6 * nx + 4, 45 + 6 * nx + 5] [(45 + 6 * nx, 0), (45 + 6 * nx, 1), (45 + 6 * nx, 2), (43, 1), (43, 2)] p q) (h : zCe p E F) : zCe q E F := zCi_F2 f (by simp <;> omega) (by intro i hi; simp <;> omega) (by intro i; simp <;> omega) (by simp <;> omega) h
theorem zc_day {ph : pm_H} {E : zEn} {F P G nx u fl hn ln : Nat} {v t : Nat → Nat} {w sv : Nat → Nat → Nat} (hS : zSh ph) (hK : zKC ph E.1 E.2.1 E.2.2.1 P G v nx u w fl sv hn) (hE : zCe ph E F) (hr : zc ph 10 1 = some (.ref F)) (hc : zCc ph E.1 E.2.1 E.2.2.1) (hO : zOk E.1 E.2.1 P G v) (h40 : v 40 < 990000) (hT : zTc ph ln t) : zM 138 [.ref 0] ph (fun v0 q => zc q 1 1 = some (.int (zn 0)) ∧ zCe q E F ∧ zc q 10 1 = some (.ref F) ∧ zCc q E.1 E.2.1 E.2.2.1 ∧ ∃ (ok : Bool) (a k : Nat) (y : Int32), zDo (min ln 60) t ok a k ∧ v0 = some (.int y) ∧ ((¬ (ok = true ∧ ln ≤ 60) ∧ y.toInt = -1 - (a : Int) ∧ zKC q E.1 E.2.1 E.2.2.1 P G v nx u w fl sv hn) ∨ (ok = true ∧ ln ≤ 60 ∧ ∃ i v2, zAs2 E P G v t k i v2 ∧ y.toInt = (i : Int) ∧ ((i = 0 ∧ zKC q E.1 E.2.1 E.2.2.1 P G v2 nx u w fl sv hn) ∨ (0 < i ∧ ∃ nx1, zKC q E.1 E.2.1 E.2.2.1 P G v2 nx1 (zAd u) (zAw u (zWp u w v)) fl sv hn))))) := by
  obtain ⟨Q, hQ⟩ : ∃ Q : Option Value → pm_H → Prop, Q = (fun v0 q => zc q 1 1 = some (.int (zn 0)) ∧ zCe q E F ∧ zc q 10 1 = some (.ref F) ∧ zCc q E.1 E.2.1 E.2.2.1 ∧ ∃ (ok : Bool) (a k : Nat) (y : Int32), zDo (min ln 60) t ok a k ∧ v0 = some (.int y) ∧ ((¬ (ok = true ∧ ln ≤ 60) ∧ y.toInt = -1 - (a : Int) ∧ zKC q E.1 E.2.1 E.2.2.1 P G v nx u w fl sv hn) ∨ (ok = true ∧ ln ≤ 60 ∧ ∃ i v2, zAs2 E P G v t k i v2 ∧ y.toInt = (i : Int) ∧ ((i = 0 ∧ zKC q E.1 E.2.1 E.2.2.1 P G v2 nx u w fl sv hn) ∨ (0 < i ∧ ∃ nx1, zKC q E.1 E.2.1 E.2.2.1 P G v2 nx1 (zAd u) (zAw u (zWp u w v)) fl sv hn))))) := ⟨_, rfl⟩
  rw [← hQ]
  refine zM_mk fun n D => ?_
  show zW n D 138 Q 0 [some (.ref 0), none, none] [] ph
  have c_0 : (Int32.ofInt (-1)).toInt = -1 := by decide
  have c_1 : (Int32.ofInt 0).toInt = 0 := by decide
  have c_2 : (Int32.ofInt 1).toInt = 1 := by decide
  have hP8 : P ≤ 8 := hK.2.1.2.1
  have hG8 : G ≤ 8 := hK.2.1.2.2.2.1
  have hln80 := hT.2.1
  refine w_load (pc' := 1) (v := .ref 0) (m := 1) (ykc_138 (e := (2, .aload_n kF0, 0)) rfl) rfl rfl ?_
  refine w_gf (pc' := 4) (v := .ref 157) (ykc_138 (e := (5, .getfield 69, 0)) rfl) rfl (zsg hS zs_0_9) rfl ?_
  refine w_load (pc' := 5) (v := .ref 0) (m := 1) (ykc_138 (e := (2, .aload_n kF0, 0)) rfl) rfl rfl ?_
  refine w_gf (pc' := 8) (v := .ref 1) (ykc_138 (e := (5, .getfield 10, 0)) rfl) rfl (zsg hS zs_0_0) rfl ?_
  refine w_cv (as := [.ref 157, .ref 1]) (r := []) (ykc_138 (e := (6, .invokevirtual 271, 0)) rfl) rfl rfl rfl rfl (zc_planRead hS hT) (fun v1587 ph1588 hv => ?_)
  rcases hv with ⟨f1, ok, a, k, ho, ⟨hok, hl60, rfl, hk30, hk2, hdd⟩ | ⟨hno, rfl⟩⟩
  · have ha60 := zDo_a ho
    have ta := znt (k := a) (by omega)
    have tm1 : (Int32.ofInt (-1)).toInt = -1 := by decide
    show zW n D 138 Q 11 [some (.ref 0), none, none] [.int (Int32.ofInt (-1))] ph1588
    refine w_store (pc' := 12) (L' := [some (.ref 0), some (.int (Int32.ofInt (-1))), none]) (st' := []) (m := 1) (ykc_138 (e := (3, .istore_n kF1, 0)) rfl) rfl rfl ?_
    refine w_load (pc' := 13) (v := .ref 0) (m := 1) (ykc_138 (e := (2, .aload_n kF0, 0)) rfl) rfl rfl ?_
    refine w_gf (pc' := 16) (v := .ref 1) (ykc_138 (e := (5, .getfield 10, 0)) rfl) rfl ((f1.1 0 0 (by decide) (by decide)).trans (zsg hS zs_0_0)) rfl ?_
    refine w_cv (as := [.ref 1]) (r := []) (ykc_138 (e := (6, .invokevirtual 119, 0)) rfl) rfl rfl rfl rfl (zc_tclear) (fun v1589 ph1590 hv => ?_)
    obtain ⟨rfl, f2, g1⟩ := hv
    have fz : zFr [158, 159] [(157, 2), (1, 1)] ph _ := zFr_trans (zFr_mono f1 (by simp) (by simp)) (zFr_mono f2 (by simp) (by simp))
    show zW n D 138 Q 19 [some (.ref 0), some (.int (Int32.ofInt (-1))), none] [] ph1590
    refine w_load (pc' := 20) (v := .int (Int32.ofInt (-1))) (m := 1) (ykc_138 (e := (2, .iload_n kF1, 0)) rfl) rfl rfl ?_
    refine w_zlt (ykc_138 (e := (4, .ifCond .lt 7, 27)) rfl) rfl (fun b1591 => ?_) (fun q => by exfalso; omega)
    refine w_load (pc' := 28) (v := .ref 0) (m := 1) (ykc_138 (e := (2, .aload_n kF0, 0)) rfl) rfl rfl ?_
    refine w_gf (pc' := 31) (v := .ref 31) (ykc_138 (e := (5, .getfield 46, 0)) rfl) rfl ((f2.1 0 5 (by decide) (by decide)).trans ((f1.1 0 5 (by decide) (by decide)).trans (zsg hS zs_0_5))) rfl ?_
    refine w_load (pc' := 32) (v := .ref 0) (m := 1) (ykc_138 (e := (2, .aload_n kF0, 0)) rfl) rfl rfl ?_
    refine w_gf (pc' := 35) (v := .ref 25) (ykc_138 (e := (5, .getfield 42, 0)) rfl) rfl ((f2.1 0 4 (by decide) (by decide)).trans ((f1.1 0 4 (by decide) (by decide)).trans (zsg hS zs_0_4))) rfl ?_
    have hSz := zSh_F fz (by decide +kernel) hS
    have hKz := zKC_pl fz hK
    have hEz := zCe_pl fz hE
    have hrz := (fz.1 10 1 (by decide) (by decide)).trans hr
    have hcz := zCc_F fz (by simp) (by simp) (by simp) hc
    have hkz := (f2.1 157 2 (by decide) (by decide)).trans hk2
    have hdz := zDd_F f2 (by simp) (by simp) hdd
    refine w_cv (as := [.ref 31, .ref 25]) (r := []) (ykc_138 (e := (6, .invokevirtual 235, 0)) rfl) rfl rfl rfl rfl (zc_copy (zSs_of hSz (S := 25) (by decide)) (zSs_of hSz (S := 31) (by decide)) hKz.2.1 (by omega)) (fun v1592 ph1593 hv => ?_)
    rcases hv with ⟨rfl, fb, db⟩
    · show zW n D 138 Q 38 [some (.ref 0), some (.int (Int32.ofInt (-1))), none] [] ph1593
      refine w_alu (pc' := 39) (st' := [.int (Int32.ofInt 0)]) (ykc_138 (e := (0, .iconst 0, 0)) rfl) rfl rfl ?_
      refine w_store (pc' := 40) (L' := [some (.ref 0), some (.int (Int32.ofInt (-1))), some (.int (Int32.ofInt 0))]) (st' := []) (m := 1) (ykc_138 (e := (3, .istore_n kF2, 0)) rfl) rfl rfl ?_
      have hSb := zCo_S (S := 31) (by decide) fb hSz
      have hKb := zKC_31 fb hKz
      have hEb : zCe ph1593 E F := zCe_31 fb hEz
      have hrb := (fb.1 10 1 (by simp) (by simp)).trans hrz
      have hcb := zCc_F fb (by simp) (by simp) (by simp) hcz
      have hkb := (fb.1 157 2 (by simp) (by simp)).trans hkz
      have hdb := zDd_F fb (by simp) (by simp) hdz
      have hgb := (fb.1 1 1 (by simp) (by simp)).trans g1
      have htb : zCt ph1593 25 P G v := ⟨⟨by decide, zSs_of hSb (S := 25) (by decide)⟩, hKb.2.1⟩
      have hl1 : ∀ (n : Nat), ∀ (i : Nat) (v2 : Nat → Nat) (p : pm_H), (i ≤ k) → (zFr [8, 9, 15, 20, 22, 23, 24, 26, 27, 28, 29, 30] [(5, 4), (25, 2)] ph1593 p) → (zCt p 25 P G v2) → (zCc p E.1 E.2.1 E.2.2.1) → (zAr E P G v t i = some v2) → zW n D 138 Q 40 [some (.ref 0), some (.int (Int32.ofInt (-1))), some (.int (zn i))] [] p := by
        intro n
        induction n using Nat.strongRecOn with
        | ind n ih =>
          intro i v2 p hi hf ht2 hc2 hr2
          have ti := znt (k := i) (by omega)
          have tk := znt (k := k) (by omega)
          have hSp := zSh_F hf (by decide +kernel) hSb
          have hkp := (hf.1 157 2 (by simp) (by simp)).trans hkb
          obtain ⟨hO2, h402⟩ := zAr_ok hO hP8 hG8 ho.1 (by omega) i hi hr2
          have hEp := zCe_fa hf hEb
          have hrp := (hf.1 10 1 (by simp) (by simp)).trans hrb
          refine w_load (pc' := 41) (v := .int (zn i)) (m := 1) (ykc_138 (e := (2, .iload_n kF2, 0)) rfl) rfl rfl ?_
          refine w_load (pc' := 42) (v := .ref 0) (m := 1) (ykc_138 (e := (2, .aload_n kF0, 0)) rfl) rfl rfl ?_
          refine w_gf (pc' := 45) (v := .ref 157) (ykc_138 (e := (5, .getfield 69, 0)) rfl) rfl ((hf.1 0 9 (by decide) (by decide)).trans ((fb.1 0 9 (by decide) (by decide)).trans ((f2.1 0 9 (by decide) (by decide)).trans ((f1.1 0 9 (by decide) (by decide)).trans (zsg hS zs_0_9))))) rfl ?_
          refine w_cv (as := [.ref 157]) (r := [.int (zn i)]) (ykc_138 (e := (6, .invokevirtual 272, 0)) rfl) rfl rfl rfl rfl (zc_plActs hkp) (fun v1594 ph1595 hv => ?_)
          obtain ⟨rfl, rfl⟩ := hv
          show zW n D 138 Q 48 [some (.ref 0), some (.int (Int32.ofInt (-1))), some (.int (zn i))] [.int (zn k), .int (zn i)] p
          refine w_ige (ykc_138 (e := (4, .if_icmp .ge 17, 65)) rfl) rfl (fun b1596 => ?_) (fun b1596 => ?_)
          · refine w_load (pc' := 66) (v := .int (zn i)) (m := 1) (ykc_138 (e := (2, .iload_n kF2, 0)) rfl) rfl rfl ?_
            have has : zAs2 E P G v t k i v2 := ⟨hi, hr2, fun q => absurd q (by omega)⟩
            have FX := hf
            have ht3 := ht2
            have hc3 := hc2
            have hSx := zSh_F FX (by decide +kernel) hSb
            have hKx := zKC_fa FX hKb ht3.2
            have hEx := zCe_fa FX hEb
            have hrx := (FX.1 10 1 (by simp) (by simp)).trans hrb
            have hgx := (FX.1 1 1 (by simp) (by simp)).trans hgb
            have dbx := zSd_F FX (by intro j hj; simp <;> omega) (by intro j i hj; simp <;> omega) db
            have hkx := (FX.1 157 2 (by simp) (by simp)).trans hkb
            have hnx := hKx.2.2.1.2.1
            refine w_zle (ykc_138 (e := (4, .ifCond .le 14, 80)) rfl) rfl (fun b1597 => ?_) (fun b1597 => ?_)
            · have hKy := hKx
              have hSy := hSx
              have hgy := hgx
              have hEy := hEx
              have hry := hrx
              have hcy := hc3
              refine w_load (pc' := 81) (v := .ref 0) (m := 1) (ykc_138 (e := (2, .aload_n kF0, 0)) rfl) rfl rfl ?_
              refine w_gf (pc' := 84) (v := .ref 3) (ykc_138 (e := (5, .getfield 19, 0)) rfl) rfl ((hf.1 0 1 (by decide) (by decide)).trans ((fb.1 0 1 (by decide) (by decide)).trans ((f2.1 0 1 (by decide) (by decide)).trans ((f1.1 0 1 (by decide) (by decide)).trans (zsg hS zs_0_1))))) rfl ?_
              refine w_cv (as := [.ref 3]) (r := []) (ykc_138 (e := (6, .invokevirtual 245, 0)) rfl) rfl rfl rfl rfl (zc_anew) (fun v1598 ph1599 hv => ?_)
              obtain ⟨rfl, fn1, gn1⟩ := hv
              show zW n D 138 Q 87 [some (.ref 0), some (.int (Int32.ofInt (-1))), some (.int (zn i))] [.ref 3] ph1599
              refine w_load (pc' := 88) (v := .int (zn i)) (m := 1) (ykc_138 (e := (2, .iload_n kF2, 0)) rfl) rfl rfl ?_
              refine w_load (pc' := 89) (v := .ref 0) (m := 1) (ykc_138 (e := (2, .aload_n kF0, 0)) rfl) rfl rfl ?_
              refine w_gf (pc' := 92) (v := .ref 157) (ykc_138 (e := (5, .getfield 69, 0)) rfl) rfl ((fn1.1 0 9 (by decide) (by decide)).trans ((hf.1 0 9 (by decide) (by decide)).trans ((fb.1 0 9 (by decide) (by decide)).trans ((f2.1 0 9 (by decide) (by decide)).trans ((f1.1 0 9 (by decide) (by decide)).trans (zsg hS zs_0_9)))))) rfl ?_
              refine w_cv (as := [.ref 157]) (r := [.int (zn i), .ref 3]) (ykc_138 (e := (6, .invokevirtual 272, 0)) rfl) rfl rfl rfl rfl (zc_plActs ((fn1.1 157 2 (by simp <;> omega) (by simp <;> omega)).trans hkx)) (fun v1600 ph1601 hv => ?_)
              obtain ⟨rfl, rfl⟩ := hv
              show zW n D 138 Q 95 [some (.ref 0), some (.int (Int32.ofInt (-1))), some (.int (zn i))] [.int (zn k), .int (zn i), .ref 3] ph1599
              refine w_ige (ykc_138 (e := (4, .if_icmp .ge 7, 102)) rfl) rfl (fun b1602 => ?_) (fun b1602 => ?_)
              · refine w_alu (pc' := 103) (st' := [.long (Int64.ofNat kG0), .ref 3]) (ykc_138 (e := (0, .lconst kG0, 0)) rfl) rfl rfl ?_
                refine w_cv (as := [.ref 3, .long (Int64.ofNat kG0)]) (r := []) (ykc_138 (e := (6, .invokevirtual 252, 0)) rfl) rfl rfl rfl rfl (zc_add (zN_S (show zFr [4] [(3, 1)] p ph1599 from (zFr_mono fn1 (by simp) (by simp))) hSy) (k := 0) gn1 (by decide)) (fun v1603 ph1604 hv => ?_)
                obtain ⟨rfl, fn2, gn2⟩ := hv
                show zW n D 138 Q 106 [some (.ref 0), some (.int (Int32.ofInt (-1))), some (.int (zn i))] [.ref 3] ph1604
                refine w_load (pc' := 107) (v := .ref 0) (m := 1) (ykc_138 (e := (2, .aload_n kF0, 0)) rfl) rfl rfl ?_
                refine w_gf (pc' := 110) (v := .ref 25) (ykc_138 (e := (5, .getfield 42, 0)) rfl) rfl ((fn2.1 0 4 (by decide) (by decide)).trans ((fn1.1 0 4 (by decide) (by decide)).trans ((hf.1 0 4 (by decide) (by decide)).trans ((fb.1 0 4 (by decide) (by decide)).trans ((f2.1 0 4 (by decide) (by decide)).trans ((f1.1 0 4 (by decide) (by decide)).trans (zsg hS zs_0_4))))))) rfl ?_
                refine w_gf (pc' := 113) (v := .int (zn (v2 40))) (ykc_138 (e := (5, .getfield 281, 0)) rfl) rfl ((fn2.1 25 2 (by decide) (by decide)).trans ((fn1.1 25 2 (by decide) (by decide)).trans hKy.2.1.2.2.2.2.1)) rfl ?_
                refine w_alu (pc' := 114) (st' := [.long ((zn (v2 40)).toInt64), .ref 3]) (ykc_138 (e := (0, .i2l, 0)) rfl) rfl rfl ?_
                refine w_cv (as := [.ref 3, .long ((zn (v2 40)).toInt64)]) (r := []) (ykc_138 (e := (6, .invokevirtual 252, 0)) rfl) rfl rfl rfl rfl (zc_add (zN_S (show zFr [4] [(3, 1)] p ph1604 from (zFr_trans (zFr_mono fn1 (by simp) (by simp)) (zFr_mono fn2 (by simp) (by simp)))) hSy) (k := 1) gn2 (by decide)) (fun v1605 ph1606 hv => ?_)
                obtain ⟨rfl, fn3, gn3⟩ := hv
                show zW n D 138 Q 117 [some (.ref 0), some (.int (Int32.ofInt (-1))), some (.int (zn i))] [.ref 3] ph1606
                refine w_alu (pc' := 118) (st' := []) (ykc_138 (e := (0, .pop, 0)) rfl) rfl rfl ?_
                refine w_load (pc' := 119) (v := .int (zn i)) (m := 1) (ykc_138 (e := (2, .iload_n kF2, 0)) rfl) rfl rfl ?_
                refine w_ret (v := (some (.int (zn i)))) (ykc_138 (e := (7, .ireturn, 0)) rfl) (zr_v rfl) ?_
                have FN := (show zFr [4] [(3, 1)] p ph1606 from (zFr_trans (zFr_trans (zFr_mono fn1 (by simp) (by simp)) (zFr_mono fn2 (by simp) (by simp))) (zFr_mono fn3 (by simp) (by simp))))
                rw [hQ]
                exact ⟨(FN.1 1 1 (by decide) (by decide)).trans hgy, zCe_n FN hEy, (FN.1 10 1 (by decide) (by decide)).trans hry, zCc_F FN (by simp) (by simp) (by simp) hcy, ok, a, k, _, ho, rfl, Or.inr ⟨hok, hl60, i, v2, has, ti, Or.inl ⟨by omega, zKC_n FN hKy⟩⟩⟩
              · refine w_alu (pc' := 99) (st' := [.long (Int64.ofNat kG1), .ref 3]) (ykc_138 (e := (0, .lconst kG1, 0)) rfl) rfl rfl ?_
                refine w_br (pc' := 103) (st' := [.long (Int64.ofNat kG1), .ref 3]) (ykc_138 (e := (4, .goto 4, 103)) rfl) rfl ?_
                refine w_cv (as := [.ref 3, .long (Int64.ofNat kG1)]) (r := []) (ykc_138 (e := (6, .invokevirtual 252, 0)) rfl) rfl rfl rfl rfl (zc_add (zN_S (show zFr [4] [(3, 1)] p ph1599 from (zFr_mono fn1 (by simp) (by simp))) hSy) (k := 0) gn1 (by decide)) (fun v1607 ph1608 hv => ?_)
                obtain ⟨rfl, fn2, gn2⟩ := hv
                show zW n D 138 Q 106 [some (.ref 0), some (.int (Int32.ofInt (-1))), some (.int (zn i))] [.ref 3] ph1608
                refine w_load (pc' := 107) (v := .ref 0) (m := 1) (ykc_138 (e := (2, .aload_n kF0, 0)) rfl) rfl rfl ?_
                refine w_gf (pc' := 110) (v := .ref 25) (ykc_138 (e := (5, .getfield 42, 0)) rfl) rfl ((fn2.1 0 4 (by decide) (by decide)).trans ((fn1.1 0 4 (by decide) (by decide)).trans ((hf.1 0 4 (by decide) (by decide)).trans ((fb.1 0 4 (by decide) (by decide)).trans ((f2.1 0 4 (by decide) (by decide)).trans ((f1.1 0 4 (by decide) (by decide)).trans (zsg hS zs_0_4))))))) rfl ?_
                refine w_gf (pc' := 113) (v := .int (zn (v2 40))) (ykc_138 (e := (5, .getfield 281, 0)) rfl) rfl ((fn2.1 25 2 (by decide) (by decide)).trans ((fn1.1 25 2 (by decide) (by decide)).trans hKy.2.1.2.2.2.2.1)) rfl ?_
                refine w_alu (pc' := 114) (st' := [.long ((zn (v2 40)).toInt64), .ref 3]) (ykc_138 (e := (0, .i2l, 0)) rfl) rfl rfl ?_
                refine w_cv (as := [.ref 3, .long ((zn (v2 40)).toInt64)]) (r := []) (ykc_138 (e := (6, .invokevirtual 252, 0)) rfl) rfl rfl rfl rfl (zc_add (zN_S (show zFr [4] [(3, 1)] p ph1608 from (zFr_trans (zFr_mono fn1 (by simp) (by simp)) (zFr_mono fn2 (by simp) (by simp)))) hSy) (k := 1) gn2 (by decide)) (fun v1609 ph1610 hv => ?_)
                obtain ⟨rfl, fn3, gn3⟩ := hv
                show zW n D 138 Q 117 [some (.ref 0), some (.int (Int32.ofInt (-1))), some (.int (zn i))] [.ref 3] ph1610
                refine w_alu (pc' := 118) (st' := []) (ykc_138 (e := (0, .pop, 0)) rfl) rfl rfl ?_
                refine w_load (pc' := 119) (v := .int (zn i)) (m := 1) (ykc_138 (e := (2, .iload_n kF2, 0)) rfl) rfl rfl ?_
                refine w_ret (v := (some (.int (zn i)))) (ykc_138 (e := (7, .ireturn, 0)) rfl) (zr_v rfl) ?_
                have FN := (show zFr [4] [(3, 1)] p ph1610 from (zFr_trans (zFr_trans (zFr_mono fn1 (by simp) (by simp)) (zFr_mono fn2 (by simp) (by simp))) (zFr_mono fn3 (by simp) (by simp))))
                rw [hQ]
                exact ⟨(FN.1 1 1 (by decide) (by decide)).trans hgy, zCe_n FN hEy, (FN.1 10 1 (by decide) (by decide)).trans hry, zCc_F FN (by simp) (by simp) (by simp) hcy, ok, a, k, _, ho, rfl, Or.inr ⟨hok, hl60, i, v2, has, ti, Or.inl ⟨by omega, zKC_n FN hKy⟩⟩⟩
            · refine w_load (pc' := 70) (v := .ref 0) (m := 1) (ykc_138 (e := (2, .aload_n kF0, 0)) rfl) rfl rfl ?_
              refine w_gf (pc' := 73) (v := .ref 43) (ykc_138 (e := (5, .getfield 55, 0)) rfl) rfl ((hf.1 0 7 (by decide) (by decide)).trans ((fb.1 0 7 (by decide) (by decide)).trans ((f2.1 0 7 (by decide) (by decide)).trans ((f1.1 0 7 (by decide) (by decide)).trans (zsg hS zs_0_7))))) rfl ?_
              refine w_load (pc' := 74) (v := .ref 0) (m := 1) (ykc_138 (e := (2, .aload_n kF0, 0)) rfl) rfl rfl ?_
              refine w_gf (pc' := 77) (v := .ref 31) (ykc_138 (e := (5, .getfield 46, 0)) rfl) rfl ((hf.1 0 5 (by decide) (by decide)).trans ((fb.1 0 5 (by decide) (by decide)).trans ((f2.1 0 5 (by decide) (by decide)).trans ((f1.1 0 5 (by decide) (by decide)).trans (zsg hS zs_0_5))))) rfl ?_
              refine w_cv (as := [.ref 43, .ref 31]) (r := []) (ykc_138 (e := (6, .invokevirtual 278, 0)) rfl) rfl rfl rfl rfl (zc_push (T := 31) hSx (Or.inr rfl) dbx hKx.2.2.1.1 hKx.2.2.1.2.2.1 hnx hKx.2.2.1.2.2.2.1) (fun v1611 ph1612 hv => ?_)
              rcases hv with ⟨rfl, ⟨q1, q2, pf, pu1, pu2⟩, pd⟩
              · have fq : zFr [45 + 6 * nx + 1, 45 + 6 * nx + 2, 45 + 6 * nx + 3, 45 + 6 * nx + 4, 45 + 6 * nx + 5] [(45 + 6 * nx, 0), (45 + 6 * nx, 1), (45 + 6 * nx, 2), (43, 1), (43, 2)] p ph1612 := zFr_trans (zFr_mono pf (by simp) (by simp)) (zFr_trans (zFr_st pu1 (Or.inr (by simp))) (zFr_st pu2 (Or.inr (by simp))))
                have hKy := zKC_pu hKx pf pu1 pu2 pd
                have hSy := zSh_st pu2 (by decide +kernel) (zSh_st pu1 (by decide +kernel) (zCo_S (zSadr_past hnx) pf hSx))
                have hgy := (fq.1 1 1 (by simp <;> omega) (by simp <;> omega)).trans hgx
                have hEy := zCe_q hnx fq hEx
                have hry := (fq.1 10 1 (by simp <;> omega) (by simp <;> omega)).trans hrx
                have hcy := zCc_F fq (by simp <;> omega) (by simp <;> omega) (by intro i; simp <;> omega) hc3
                show zW n D 138 Q 80 [some (.ref 0), some (.int (Int32.ofInt (-1))), some (.int (zn i))] [] ph1612
                refine w_load (pc' := 81) (v := .ref 0) (m := 1) (ykc_138 (e := (2, .aload_n kF0, 0)) rfl) rfl rfl ?_
                refine w_gf (pc' := 84) (v := .ref 3) (ykc_138 (e := (5, .getfield 19, 0)) rfl) rfl ((fq.1 0 1 (by simp <;> omega) (by simp <;> omega)).trans ((hf.1 0 1 (by decide) (by decide)).trans ((fb.1 0 1 (by decide) (by decide)).trans ((f2.1 0 1 (by decide) (by decide)).trans ((f1.1 0 1 (by decide) (by decide)).trans (zsg hS zs_0_1)))))) rfl ?_
                refine w_cv (as := [.ref 3]) (r := []) (ykc_138 (e := (6, .invokevirtual 245, 0)) rfl) rfl rfl rfl rfl (zc_anew) (fun v1613 ph1614 hv => ?_)
                obtain ⟨rfl, fn1, gn1⟩ := hv
                show zW n D 138 Q 87 [some (.ref 0), some (.int (Int32.ofInt (-1))), some (.int (zn i))] [.ref 3] ph1614
                refine w_load (pc' := 88) (v := .int (zn i)) (m := 1) (ykc_138 (e := (2, .iload_n kF2, 0)) rfl) rfl rfl ?_
                refine w_load (pc' := 89) (v := .ref 0) (m := 1) (ykc_138 (e := (2, .aload_n kF0, 0)) rfl) rfl rfl ?_
                refine w_gf (pc' := 92) (v := .ref 157) (ykc_138 (e := (5, .getfield 69, 0)) rfl) rfl ((fn1.1 0 9 (by decide) (by decide)).trans ((fq.1 0 9 (by simp <;> omega) (by simp <;> omega)).trans ((hf.1 0 9 (by decide) (by decide)).trans ((fb.1 0 9 (by decide) (by decide)).trans ((f2.1 0 9 (by decide) (by decide)).trans ((f1.1 0 9 (by decide) (by decide)).trans (zsg hS zs_0_9))))))) rfl ?_
                refine w_cv (as := [.ref 157]) (r := [.int (zn i), .ref 3]) (ykc_138 (e := (6, .invokevirtual 272, 0)) rfl) rfl rfl rfl rfl (zc_plActs ((fn1.1 157 2 (by simp <;> omega) (by simp <;> omega)).trans ((fq.1 157 2 (by simp <;> omega) (by simp <;> omega)).trans hkx))) (fun v1615 ph1616 hv => ?_)
                obtain ⟨rfl, rfl⟩ := hv
                show zW n D 138 Q 95 [some (.ref 0), some (.int (Int32.ofInt (-1))), some (.int (zn i))] [.int (zn k), .int (zn i), .ref 3] ph1614
                refine w_ige (ykc_138 (e := (4, .if_icmp .ge 7, 102)) rfl) rfl (fun b1617 => ?_) (fun b1617 => ?_)
                · refine w_alu (pc' := 103) (st' := [.long (Int64.ofNat kG0), .ref 3]) (ykc_138 (e := (0, .lconst kG0, 0)) rfl) rfl rfl ?_
                  refine w_cv (as := [.ref 3, .long (Int64.ofNat kG0)]) (r := []) (ykc_138 (e := (6, .invokevirtual 252, 0)) rfl) rfl rfl rfl rfl (zc_add (zN_S (show zFr [4] [(3, 1)] ph1612 ph1614 from (zFr_mono fn1 (by simp) (by simp))) hSy) (k := 0) gn1 (by decide)) (fun v1618 ph1619 hv => ?_)
                  obtain ⟨rfl, fn2, gn2⟩ := hv
                  show zW n D 138 Q 106 [some (.ref 0), some (.int (Int32.ofInt (-1))), some (.int (zn i))] [.ref 3] ph1619
                  refine w_load (pc' := 107) (v := .ref 0) (m := 1) (ykc_138 (e := (2, .aload_n kF0, 0)) rfl) rfl rfl ?_
                  refine w_gf (pc' := 110) (v := .ref 25) (ykc_138 (e := (5, .getfield 42, 0)) rfl) rfl ((fn2.1 0 4 (by decide) (by decide)).trans ((fn1.1 0 4 (by decide) (by decide)).trans ((fq.1 0 4 (by simp <;> omega) (by simp <;> omega)).trans ((hf.1 0 4 (by decide) (by decide)).trans ((fb.1 0 4 (by decide) (by decide)).trans ((f2.1 0 4 (by decide) (by decide)).trans ((f1.1 0 4 (by decide) (by decide)).trans (zsg hS zs_0_4)))))))) rfl ?_
                  refine w_gf (pc' := 113) (v := .int (zn (v2 40))) (ykc_138 (e := (5, .getfield 281, 0)) rfl) rfl ((fn2.1 25 2 (by decide) (by decide)).trans ((fn1.1 25 2 (by decide) (by decide)).trans hKy.2.1.2.2.2.2.1)) rfl ?_
                  refine w_alu (pc' := 114) (st' := [.long ((zn (v2 40)).toInt64), .ref 3]) (ykc_138 (e := (0, .i2l, 0)) rfl) rfl rfl ?_
                  refine w_cv (as := [.ref 3, .long ((zn (v2 40)).toInt64)]) (r := []) (ykc_138 (e := (6, .invokevirtual 252, 0)) rfl) rfl rfl rfl rfl (zc_add (zN_S (show zFr [4] [(3, 1)] ph1612 ph1619 from (zFr_trans (zFr_mono fn1 (by simp) (by simp)) (zFr_mono fn2 (by simp) (by simp)))) hSy) (k := 1) gn2 (by decide)) (fun v1620 ph1621 hv => ?_)
                  obtain ⟨rfl, fn3, gn3⟩ := hv
                  show zW n D 138 Q 117 [some (.ref 0), some (.int (Int32.ofInt (-1))), some (.int (zn i))] [.ref 3] ph1621
                  refine w_alu (pc' := 118) (st' := []) (ykc_138 (e := (0, .pop, 0)) rfl) rfl rfl ?_
                  refine w_load (pc' := 119) (v := .int (zn i)) (m := 1) (ykc_138 (e := (2, .iload_n kF2, 0)) rfl) rfl rfl ?_
                  refine w_ret (v := (some (.int (zn i)))) (ykc_138 (e := (7, .ireturn, 0)) rfl) (zr_v rfl) ?_
                  have FN := (show zFr [4] [(3, 1)] ph1612 ph1621 from (zFr_trans (zFr_trans (zFr_mono fn1 (by simp) (by simp)) (zFr_mono fn2 (by simp) (by simp))) (zFr_mono fn3 (by simp) (by simp))))
                  rw [hQ]
                  exact ⟨(FN.1 1 1 (by decide) (by decide)).trans hgy, zCe_n FN hEy, (FN.1 10 1 (by decide) (by decide)).trans hry, zCc_F FN (by simp) (by simp) (by simp) hcy, ok, a, k, _, ho, rfl, Or.inr ⟨hok, hl60, i, v2, has, ti, Or.inr ⟨by omega, _, zKC_n FN hKy⟩⟩⟩
                · refine w_alu (pc' := 99) (st' := [.long (Int64.ofNat kG1), .ref 3]) (ykc_138 (e := (0, .lconst kG1, 0)) rfl) rfl rfl ?_
                  refine w_br (pc' := 103) (st' := [.long (Int64.ofNat kG1), .ref 3]) (ykc_138 (e := (4, .goto 4, 103)) rfl) rfl ?_
                  refine w_cv (as := [.ref 3, .long (Int64.ofNat kG1)]) (r := []) (ykc_138 (e := (6, .invokevirtual 252, 0)) rfl) rfl rfl rfl rfl (zc_add (zN_S (show zFr [4] [(3, 1)] ph1612 ph1614 from (zFr_mono fn1 (by simp) (by simp))) hSy) (k := 0) gn1 (by decide)) (fun v1622 ph1623 hv => ?_)
                  obtain ⟨rfl, fn2, gn2⟩ := hv
                  show zW n D 138 Q 106 [some (.ref 0), some (.int (Int32.ofInt (-1))), some (.int (zn i))] [.ref 3] ph1623
                  refine w_load (pc' := 107) (v := .ref 0) (m := 1) (ykc_138 (e := (2, .aload_n kF0, 0)) rfl) rfl rfl ?_
                  refine w_gf (pc' := 110) (v := .ref 25) (ykc_138 (e := (5, .getfield 42, 0)) rfl) rfl ((fn2.1 0 4 (by decide) (by decide)).trans ((fn1.1 0 4 (by decide) (by decide)).trans ((fq.1 0 4 (by simp <;> omega) (by simp <;> omega)).trans ((hf.1 0 4 (by decide) (by decide)).trans ((fb.1 0 4 (by decide) (by decide)).trans ((f2.1 0 4 (by decide) (by decide)).trans ((f1.1 0 4 (by decide) (by decide)).trans (zsg hS zs_0_4)))))))) rfl ?_
                  refine w_gf (pc' := 113) (v := .int (zn (v2 40))) (ykc_138 (e := (5, .getfield 281, 0)) rfl) rfl ((fn2.1 25 2 (by decide) (by decide)).trans ((fn1.1 25 2 (by decide) (by decide)).trans hKy.2.1.2.2.2.2.1)) rfl ?_
                  refine w_alu (pc' := 114) (st' := [.long ((zn (v2 40)).toInt64), .ref 3]) (ykc_138 (e := (0, .i2l, 0)) rfl) rfl rfl ?_
                  refine w_cv (as := [.ref 3, .long ((zn (v2 40)).toInt64)]) (r := []) (ykc_138 (e := (6, .invokevirtual 252, 0)) rfl) rfl rfl rfl rfl (zc_add (zN_S (show zFr [4] [(3, 1)] ph1612 ph1623 from (zFr_trans (zFr_mono fn1 (by simp) (by simp)) (zFr_mono fn2 (by simp) (by simp)))) hSy) (k := 1) gn2 (by decide)) (fun v1624 ph1625 hv => ?_)
                  obtain ⟨rfl, fn3, gn3⟩ := hv
                  show zW n D 138 Q 117 [some (.ref 0), some (.int (Int32.ofInt (-1))), some (.int (zn i))] [.ref 3] ph1625
                  refine w_alu (pc' := 118) (st' := []) (ykc_138 (e := (0, .pop, 0)) rfl) rfl rfl ?_
                  refine w_load (pc' := 119) (v := .int (zn i)) (m := 1) (ykc_138 (e := (2, .iload_n kF2, 0)) rfl) rfl rfl ?_
                  refine w_ret (v := (some (.int (zn i)))) (ykc_138 (e := (7, .ireturn, 0)) rfl) (zr_v rfl) ?_
                  have FN := (show zFr [4] [(3, 1)] ph1612 ph1625 from (zFr_trans (zFr_trans (zFr_mono fn1 (by simp) (by simp)) (zFr_mono fn2 (by simp) (by simp))) (zFr_mono fn3 (by simp) (by simp))))
                  rw [hQ]
                  exact ⟨(FN.1 1 1 (by decide) (by decide)).trans hgy, zCe_n FN hEy, (FN.1 10 1 (by decide) (by decide)).trans hry, zCc_F FN (by simp) (by simp) (by simp) hcy, ok, a, k, _, ho, rfl, Or.inr ⟨hok, hl60, i, v2, has, ti, Or.inr ⟨by omega, _, zKC_n FN hKy⟩⟩⟩
              
            
          · refine w_load (pc' := 52) (v := .ref 0) (m := 1) (ykc_138 (e := (2, .aload_n kF0, 0)) rfl) rfl rfl ?_
            refine w_load (pc' := 53) (v := .int (zn i)) (m := 1) (ykc_138 (e := (2, .iload_n kF2, 0)) rfl) rfl rfl ?_
            refine w_cv (as := [.ref 0, .int (zn i)]) (r := []) (ykc_138 (e := (6, .invokevirtual 275, 0)) rfl) rfl rfl rfl rfl (zc_act hSp hEp ht2 hO2 hrp hc2 (by omega) hkp hk30 (zDd_F hf (by simp) (by simp) hdb) ho.1 ti (by omega)) (fun v1626 ph1627 hv => ?_)
            rcases hv with ⟨fa, y9, rfl, ⟨v3, hac, hy0, ht3, hc3⟩ | ⟨hac, hy0, ht3, hc3⟩⟩
            · show zW n D 138 Q 56 [some (.ref 0), some (.int (Int32.ofInt (-1))), some (.int (zn i))] [.int y9] ph1627
              refine w_zlt (ykc_138 (e := (4, .ifCond .lt 9, 65)) rfl) rfl (fun q => by exfalso; omega) (fun b1628 => ?_)
              have e1629 : (zn i) + Int32.ofInt 1 = zn (i + 1) := (zaddN (a := i) (b := 1) (znt (by omega)) c_2 (by omega))
              have te1629 := znt (k := i + 1) (by omega)
              refine w_store (pc' := 62) (L' := [some (.ref 0), some (.int (Int32.ofInt (-1))), some (.int (zn (i + 1)))]) (st' := []) (m := 3) (ykc_138 (e := (3, .iinc 2 1, 0)) rfl) (by rw [← e1629]; rfl) rfl ?_
              refine w_gb (ykc_138 (e := (4, .goto (-22), 40)) rfl) (fun k1630 hk1630 => ?_)
              exact ih k1630 hk1630 (i + 1) v3 _ (by omega) (zFr_trans hf fa) ht3 hc3 (by rw [zAr_s hr2]; exact hac)
            · have has : zAs2 E P G v t k i v2 := ⟨hi, hr2, fun _ => hac⟩
              have FX := zFr_trans hf fa
              show zW n D 138 Q 56 [some (.ref 0), some (.int (Int32.ofInt (-1))), some (.int (zn i))] [.int y9] ph1627
              refine w_zlt (ykc_138 (e := (4, .ifCond .lt 9, 65)) rfl) rfl (fun b1631 => ?_) (fun q => by exfalso; omega)
              refine w_load (pc' := 66) (v := .int (zn i)) (m := 1) (ykc_138 (e := (2, .iload_n kF2, 0)) rfl) rfl rfl ?_
              have hSx := zSh_F FX (by decide +kernel) hSb
              have hKx := zKC_fa FX hKb ht3.2
              have hEx := zCe_fa FX hEb
              have hrx := (FX.1 10 1 (by simp) (by simp)).trans hrb
              have hgx := (FX.1 1 1 (by simp) (by simp)).trans hgb
              have dbx := zSd_F FX (by intro j hj; simp <;> omega) (by intro j i hj; simp <;> omega) db
              have hkx := (FX.1 157 2 (by simp) (by simp)).trans hkb
              have hnx := hKx.2.2.1.2.1
              refine w_zle (ykc_138 (e := (4, .ifCond .le 14, 80)) rfl) rfl (fun b1632 => ?_) (fun b1632 => ?_)
              · have hKy := hKx
                have hSy := hSx
                have hgy := hgx
                have hEy := hEx
                have hry := hrx
                have hcy := hc3
                refine w_load (pc' := 81) (v := .ref 0) (m := 1) (ykc_138 (e := (2, .aload_n kF0, 0)) rfl) rfl rfl ?_
                refine w_gf (pc' := 84) (v := .ref 3) (ykc_138 (e := (5, .getfield 19, 0)) rfl) rfl ((fa.1 0 1 (by simp <;> omega) (by simp <;> omega)).trans ((hf.1 0 1 (by decide) (by decide)).trans ((fb.1 0 1 (by decide) (by decide)).trans ((f2.1 0 1 (by decide) (by decide)).trans ((f1.1 0 1 (by decide) (by decide)).trans (zsg hS zs_0_1)))))) rfl ?_
                refine w_cv (as := [.ref 3]) (r := []) (ykc_138 (e := (6, .invokevirtual 245, 0)) rfl) rfl rfl rfl rfl (zc_anew) (fun v1633 ph1634 hv => ?_)
                obtain ⟨rfl, fn1, gn1⟩ := hv
                show zW n D 138 Q 87 [some (.ref 0), some (.int (Int32.ofInt (-1))), some (.int (zn i))] [.ref 3] ph1634
                refine w_load (pc' := 88) (v := .int (zn i)) (m := 1) (ykc_138 (e := (2, .iload_n kF2, 0)) rfl) rfl rfl ?_
                refine w_load (pc' := 89) (v := .ref 0) (m := 1) (ykc_138 (e := (2, .aload_n kF0, 0)) rfl) rfl rfl ?_
                refine w_gf (pc' := 92) (v := .ref 157) (ykc_138 (e := (5, .getfield 69, 0)) rfl) rfl ((fn1.1 0 9 (by decide) (by decide)).trans ((fa.1 0 9 (by simp <;> omega) (by simp <;> omega)).trans ((hf.1 0 9 (by decide) (by decide)).trans ((fb.1 0 9 (by decide) (by decide)).trans ((f2.1 0 9 (by decide) (by decide)).trans ((f1.1 0 9 (by decide) (by decide)).trans (zsg hS zs_0_9))))))) rfl ?_
                refine w_cv (as := [.ref 157]) (r := [.int (zn i), .ref 3]) (ykc_138 (e := (6, .invokevirtual 272, 0)) rfl) rfl rfl rfl rfl (zc_plActs ((fn1.1 157 2 (by simp <;> omega) (by simp <;> omega)).trans hkx)) (fun v1635 ph1636 hv => ?_)
                obtain ⟨rfl, rfl⟩ := hv
                show zW n D 138 Q 95 [some (.ref 0), some (.int (Int32.ofInt (-1))), some (.int (zn i))] [.int (zn k), .int (zn i), .ref 3] ph1634
                refine w_ige (ykc_138 (e := (4, .if_icmp .ge 7, 102)) rfl) rfl (fun b1637 => ?_) (fun b1637 => ?_)
                · refine w_alu (pc' := 103) (st' := [.long (Int64.ofNat kG0), .ref 3]) (ykc_138 (e := (0, .lconst kG0, 0)) rfl) rfl rfl ?_
                  refine w_cv (as := [.ref 3, .long (Int64.ofNat kG0)]) (r := []) (ykc_138 (e := (6, .invokevirtual 252, 0)) rfl) rfl rfl rfl rfl (zc_add (zN_S (show zFr [4] [(3, 1)] ph1627 ph1634 from (zFr_mono fn1 (by simp) (by simp))) hSy) (k := 0) gn1 (by decide)) (fun v1638 ph1639 hv => ?_)
                  obtain ⟨rfl, fn2, gn2⟩ := hv
                  show zW n D 138 Q 106 [some (.ref 0), some (.int (Int32.ofInt (-1))), some (.int (zn i))] [.ref 3] ph1639
                  refine w_load (pc' := 107) (v := .ref 0) (m := 1) (ykc_138 (e := (2, .aload_n kF0, 0)) rfl) rfl rfl ?_
                  refine w_gf (pc' := 110) (v := .ref 25) (ykc_138 (e := (5, .getfield 42, 0)) rfl) rfl ((fn2.1 0 4 (by decide) (by decide)).trans ((fn1.1 0 4 (by decide) (by decide)).trans ((fa.1 0 4 (by simp <;> omega) (by simp <;> omega)).trans ((hf.1 0 4 (by decide) (by decide)).trans ((fb.1 0 4 (by decide) (by decide)).trans ((f2.1 0 4 (by decide) (by decide)).trans ((f1.1 0 4 (by decide) (by decide)).trans (zsg hS zs_0_4)))))))) rfl ?_
                  refine w_gf (pc' := 113) (v := .int (zn (v2 40))) (ykc_138 (e := (5, .getfield 281, 0)) rfl) rfl ((fn2.1 25 2 (by decide) (by decide)).trans ((fn1.1 25 2 (by decide) (by decide)).trans hKy.2.1.2.2.2.2.1)) rfl ?_
                  refine w_alu (pc' := 114) (st' := [.long ((zn (v2 40)).toInt64), .ref 3]) (ykc_138 (e := (0, .i2l, 0)) rfl) rfl rfl ?_
                  refine w_cv (as := [.ref 3, .long ((zn (v2 40)).toInt64)]) (r := []) (ykc_138 (e := (6, .invokevirtual 252, 0)) rfl) rfl rfl rfl rfl (zc_add (zN_S (show zFr [4] [(3, 1)] ph1627 ph1639 from (zFr_trans (zFr_mono fn1 (by simp) (by simp)) (zFr_mono fn2 (by simp) (by simp)))) hSy) (k := 1) gn2 (by decide)) (fun v1640 ph1641 hv => ?_)
                  obtain ⟨rfl, fn3, gn3⟩ := hv
                  show zW n D 138 Q 117 [some (.ref 0), some (.int (Int32.ofInt (-1))), some (.int (zn i))] [.ref 3] ph1641
                  refine w_alu (pc' := 118) (st' := []) (ykc_138 (e := (0, .pop, 0)) rfl) rfl rfl ?_
                  refine w_load (pc' := 119) (v := .int (zn i)) (m := 1) (ykc_138 (e := (2, .iload_n kF2, 0)) rfl) rfl rfl ?_
                  refine w_ret (v := (some (.int (zn i)))) (ykc_138 (e := (7, .ireturn, 0)) rfl) (zr_v rfl) ?_
                  have FN := (show zFr [4] [(3, 1)] ph1627 ph1641 from (zFr_trans (zFr_trans (zFr_mono fn1 (by simp) (by simp)) (zFr_mono fn2 (by simp) (by simp))) (zFr_mono fn3 (by simp) (by simp))))
                  rw [hQ]
                  exact ⟨(FN.1 1 1 (by decide) (by decide)).trans hgy, zCe_n FN hEy, (FN.1 10 1 (by decide) (by decide)).trans hry, zCc_F FN (by simp) (by simp) (by simp) hcy, ok, a, k, _, ho, rfl, Or.inr ⟨hok, hl60, i, v2, has, ti, Or.inl ⟨by omega, zKC_n FN hKy⟩⟩⟩
                · refine w_alu (pc' := 99) (st' := [.long (Int64.ofNat kG1), .ref 3]) (ykc_138 (e := (0, .lconst kG1, 0)) rfl) rfl rfl ?_
                  refine w_br (pc' := 103) (st' := [.long (Int64.ofNat kG1), .ref 3]) (ykc_138 (e := (4, .goto 4, 103)) rfl) rfl ?_
                  refine w_cv (as := [.ref 3, .long (Int64.ofNat kG1)]) (r := []) (ykc_138 (e := (6, .invokevirtual 252, 0)) rfl) rfl rfl rfl rfl (zc_add (zN_S (show zFr [4] [(3, 1)] ph1627 ph1634 from (zFr_mono fn1 (by simp) (by simp))) hSy) (k := 0) gn1 (by decide)) (fun v1642 ph1643 hv => ?_)
                  obtain ⟨rfl, fn2, gn2⟩ := hv
                  show zW n D 138 Q 106 [some (.ref 0), some (.int (Int32.ofInt (-1))), some (.int (zn i))] [.ref 3] ph1643
                  refine w_load (pc' := 107) (v := .ref 0) (m := 1) (ykc_138 (e := (2, .aload_n kF0, 0)) rfl) rfl rfl ?_
                  refine w_gf (pc' := 110) (v := .ref 25) (ykc_138 (e := (5, .getfield 42, 0)) rfl) rfl ((fn2.1 0 4 (by decide) (by decide)).trans ((fn1.1 0 4 (by decide) (by decide)).trans ((fa.1 0 4 (by simp <;> omega) (by simp <;> omega)).trans ((hf.1 0 4 (by decide) (by decide)).trans ((fb.1 0 4 (by decide) (by decide)).trans ((f2.1 0 4 (by decide) (by decide)).trans ((f1.1 0 4 (by decide) (by decide)).trans (zsg hS zs_0_4)))))))) rfl ?_
                  refine w_gf (pc' := 113) (v := .int (zn (v2 40))) (ykc_138 (e := (5, .getfield 281, 0)) rfl) rfl ((fn2.1 25 2 (by decide) (by decide)).trans ((fn1.1 25 2 (by decide) (by decide)).trans hKy.2.1.2.2.2.2.1)) rfl ?_
                  refine w_alu (pc' := 114) (st' := [.long ((zn (v2 40)).toInt64), .ref 3]) (ykc_138 (e := (0, .i2l, 0)) rfl) rfl rfl ?_
                  refine w_cv (as := [.ref 3, .long ((zn (v2 40)).toInt64)]) (r := []) (ykc_138 (e := (6, .invokevirtual 252, 0)) rfl) rfl rfl rfl rfl (zc_add (zN_S (show zFr [4] [(3, 1)] ph1627 ph1643 from (zFr_trans (zFr_mono fn1 (by simp) (by simp)) (zFr_mono fn2 (by simp) (by simp)))) hSy) (k := 1) gn2 (by decide)) (fun v1644 ph1645 hv => ?_)
                  obtain ⟨rfl, fn3, gn3⟩ := hv
                  show zW n D 138 Q 117 [some (.ref 0), some (.int (Int32.ofInt (-1))), some (.int (zn i))] [.ref 3] ph1645
                  refine w_alu (pc' := 118) (st' := []) (ykc_138 (e := (0, .pop, 0)) rfl) rfl rfl ?_
                  refine w_load (pc' := 119) (v := .int (zn i)) (m := 1) (ykc_138 (e := (2, .iload_n kF2, 0)) rfl) rfl rfl ?_
                  refine w_ret (v := (some (.int (zn i)))) (ykc_138 (e := (7, .ireturn, 0)) rfl) (zr_v rfl) ?_
                  have FN := (show zFr [4] [(3, 1)] ph1627 ph1645 from (zFr_trans (zFr_trans (zFr_mono fn1 (by simp) (by simp)) (zFr_mono fn2 (by simp) (by simp))) (zFr_mono fn3 (by simp) (by simp))))
                  rw [hQ]
                  exact ⟨(FN.1 1 1 (by decide) (by decide)).trans hgy, zCe_n FN hEy, (FN.1 10 1 (by decide) (by decide)).trans hry, zCc_F FN (by simp) (by simp) (by simp) hcy, ok, a, k, _, ho, rfl, Or.inr ⟨hok, hl60, i, v2, has, ti, Or.inl ⟨by omega, zKC_n FN hKy⟩⟩⟩
              · refine w_load (pc' := 70) (v := .ref 0) (m := 1) (ykc_138 (e := (2, .aload_n kF0, 0)) rfl) rfl rfl ?_
                refine w_gf (pc' := 73) (v := .ref 43) (ykc_138 (e := (5, .getfield 55, 0)) rfl) rfl ((fa.1 0 7 (by simp <;> omega) (by simp <;> omega)).trans ((hf.1 0 7 (by decide) (by decide)).trans ((fb.1 0 7 (by decide) (by decide)).trans ((f2.1 0 7 (by decide) (by decide)).trans ((f1.1 0 7 (by decide) (by decide)).trans (zsg hS zs_0_7)))))) rfl ?_
                refine w_load (pc' := 74) (v := .ref 0) (m := 1) (ykc_138 (e := (2, .aload_n kF0, 0)) rfl) rfl rfl ?_
                refine w_gf (pc' := 77) (v := .ref 31) (ykc_138 (e := (5, .getfield 46, 0)) rfl) rfl ((fa.1 0 5 (by simp <;> omega) (by simp <;> omega)).trans ((hf.1 0 5 (by decide) (by decide)).trans ((fb.1 0 5 (by decide) (by decide)).trans ((f2.1 0 5 (by decide) (by decide)).trans ((f1.1 0 5 (by decide) (by decide)).trans (zsg hS zs_0_5)))))) rfl ?_
                refine w_cv (as := [.ref 43, .ref 31]) (r := []) (ykc_138 (e := (6, .invokevirtual 278, 0)) rfl) rfl rfl rfl rfl (zc_push (T := 31) hSx (Or.inr rfl) dbx hKx.2.2.1.1 hKx.2.2.1.2.2.1 hnx hKx.2.2.1.2.2.2.1) (fun v1646 ph1647 hv => ?_)
                rcases hv with ⟨rfl, ⟨q1, q2, pf, pu1, pu2⟩, pd⟩
                · have fq : zFr [45 + 6 * nx + 1, 45 + 6 * nx + 2, 45 + 6 * nx + 3, 45 + 6 * nx + 4, 45 + 6 * nx + 5] [(45 + 6 * nx, 0), (45 + 6 * nx, 1), (45 + 6 * nx, 2), (43, 1), (43, 2)] ph1627 ph1647 := zFr_trans (zFr_mono pf (by simp) (by simp)) (zFr_trans (zFr_st pu1 (Or.inr (by simp))) (zFr_st pu2 (Or.inr (by simp))))
                  have hKy := zKC_pu hKx pf pu1 pu2 pd
                  have hSy := zSh_st pu2 (by decide +kernel) (zSh_st pu1 (by decide +kernel) (zCo_S (zSadr_past hnx) pf hSx))
                  have hgy := (fq.1 1 1 (by simp <;> omega) (by simp <;> omega)).trans hgx
                  have hEy := zCe_q hnx fq hEx
                  have hry := (fq.1 10 1 (by simp <;> omega) (by simp <;> omega)).trans hrx
                  have hcy := zCc_F fq (by simp <;> omega) (by simp <;> omega) (by intro i; simp <;> omega) hc3
                  show zW n D 138 Q 80 [some (.ref 0), some (.int (Int32.ofInt (-1))), some (.int (zn i))] [] ph1647
                  refine w_load (pc' := 81) (v := .ref 0) (m := 1) (ykc_138 (e := (2, .aload_n kF0, 0)) rfl) rfl rfl ?_
                  refine w_gf (pc' := 84) (v := .ref 3) (ykc_138 (e := (5, .getfield 19, 0)) rfl) rfl ((fq.1 0 1 (by simp <;> omega) (by simp <;> omega)).trans ((fa.1 0 1 (by simp <;> omega) (by simp <;> omega)).trans ((hf.1 0 1 (by decide) (by decide)).trans ((fb.1 0 1 (by decide) (by decide)).trans ((f2.1 0 1 (by decide) (by decide)).trans ((f1.1 0 1 (by decide) (by decide)).trans (zsg hS zs_0_1))))))) rfl ?_
                  refine w_cv (as := [.ref 3]) (r := []) (ykc_138 (e := (6, .invokevirtual 245, 0)) rfl) rfl rfl rfl rfl (zc_anew) (fun v1648 ph1649 hv => ?_)
                  obtain ⟨rfl, fn1, gn1⟩ := hv
                  show zW n D 138 Q 87 [some (.ref 0), some (.int (Int32.ofInt (-1))), some (.int (zn i))] [.ref 3] ph1649
                  refine w_load (pc' := 88) (v := .int (zn i)) (m := 1) (ykc_138 (e := (2, .iload_n kF2, 0)) rfl) rfl rfl ?_
                  refine w_load (pc' := 89) (v := .ref 0) (m := 1) (ykc_138 (e := (2, .aload_n kF0, 0)) rfl) rfl rfl ?_
                  refine w_gf (pc' := 92) (v := .ref 157) (ykc_138 (e := (5, .getfield 69, 0)) rfl) rfl ((fn1.1 0 9 (by decide) (by decide)).trans ((fq.1 0 9 (by simp <;> omega) (by simp <;> omega)).trans ((fa.1 0 9 (by simp <;> omega) (by simp <;> omega)).trans ((hf.1 0 9 (by decide) (by decide)).trans ((fb.1 0 9 (by decide) (by decide)).trans ((f2.1 0 9 (by decide) (by decide)).trans ((f1.1 0 9 (by decide) (by decide)).trans (zsg hS zs_0_9)))))))) rfl ?_
                  refine w_cv (as := [.ref 157]) (r := [.int (zn i), .ref 3]) (ykc_138 (e := (6, .invokevirtual 272, 0)) rfl) rfl rfl rfl rfl (zc_plActs ((fn1.1 157 2 (by simp <;> omega) (by simp <;> omega)).trans ((fq.1 157 2 (by simp <;> omega) (by simp <;> omega)).trans hkx))) (fun v1650 ph1651 hv => ?_)
                  obtain ⟨rfl, rfl⟩ := hv
                  show zW n D 138 Q 95 [some (.ref 0), some (.int (Int32.ofInt (-1))), some (.int (zn i))] [.int (zn k), .int (zn i), .ref 3] ph1649
                  refine w_ige (ykc_138 (e := (4, .if_icmp .ge 7, 102)) rfl) rfl (fun b1652 => ?_) (fun b1652 => ?_)
                  · refine w_alu (pc' := 103) (st' := [.long (Int64.ofNat kG0), .ref 3]) (ykc_138 (e := (0, .lconst kG0, 0)) rfl) rfl rfl ?_
                    refine w_cv (as := [.ref 3, .long (Int64.ofNat kG0)]) (r := []) (ykc_138 (e := (6, .invokevirtual 252, 0)) rfl) rfl rfl rfl rfl (zc_add (zN_S (show zFr [4] [(3, 1)] ph1647 ph1649 from (zFr_mono fn1 (by simp) (by simp))) hSy) (k := 0) gn1 (by decide)) (fun v1653 ph1654 hv => ?_)
                    obtain ⟨rfl, fn2, gn2⟩ := hv
                    show zW n D 138 Q 106 [some (.ref 0), some (.int (Int32.ofInt (-1))), some (.int (zn i))] [.ref 3] ph1654
                    refine w_load (pc' := 107) (v := .ref 0) (m := 1) (ykc_138 (e := (2, .aload_n kF0, 0)) rfl) rfl rfl ?_
                    refine w_gf (pc' := 110) (v := .ref 25) (ykc_138 (e := (5, .getfield 42, 0)) rfl) rfl ((fn2.1 0 4 (by decide) (by decide)).trans ((fn1.1 0 4 (by decide) (by decide)).trans ((fq.1 0 4 (by simp <;> omega) (by simp <;> omega)).trans ((fa.1 0 4 (by simp <;> omega) (by simp <;> omega)).trans ((hf.1 0 4 (by decide) (by decide)).trans ((fb.1 0 4 (by decide) (by decide)).trans ((f2.1 0 4 (by decide) (by decide)).trans ((f1.1 0 4 (by decide) (by decide)).trans (zsg hS zs_0_4))))))))) rfl ?_
                    refine w_gf (pc' := 113) (v := .int (zn (v2 40))) (ykc_138 (e := (5, .getfield 281, 0)) rfl) rfl ((fn2.1 25 2 (by decide) (by decide)).trans ((fn1.1 25 2 (by decide) (by decide)).trans hKy.2.1.2.2.2.2.1)) rfl ?_
                    refine w_alu (pc' := 114) (st' := [.long ((zn (v2 40)).toInt64), .ref 3]) (ykc_138 (e := (0, .i2l, 0)) rfl) rfl rfl ?_
                    refine w_cv (as := [.ref 3, .long ((zn (v2 40)).toInt64)]) (r := []) (ykc_138 (e := (6, .invokevirtual 252, 0)) rfl) rfl rfl rfl rfl (zc_add (zN_S (show zFr [4] [(3, 1)] ph1647 ph1654 from (zFr_trans (zFr_mono fn1 (by simp) (by simp)) (zFr_mono fn2 (by simp) (by simp)))) hSy) (k := 1) gn2 (by decide)) (fun v1655 ph1656 hv => ?_)
                    obtain ⟨rfl, fn3, gn3⟩ := hv
                    show zW n D 138 Q 117 [some (.ref 0), some (.int (Int32.ofInt (-1))), some (.int (zn i))] [.ref 3] ph1656
                    refine w_alu (pc' := 118) (st' := []) (ykc_138 (e := (0, .pop, 0)) rfl) rfl rfl ?_
                    refine w_load (pc' := 119) (v := .int (zn i)) (m := 1) (ykc_138 (e := (2, .iload_n kF2, 0)) rfl) rfl rfl ?_
                    refine w_ret (v := (some (.int (zn i)))) (ykc_138 (e := (7, .ireturn, 0)) rfl) (zr_v rfl) ?_
                    have FN := (show zFr [4] [(3, 1)] ph1647 ph1656 from (zFr_trans (zFr_trans (zFr_mono fn1 (by simp) (by simp)) (zFr_mono fn2 (by simp) (by simp))) (zFr_mono fn3 (by simp) (by simp))))
                    rw [hQ]
                    exact ⟨(FN.1 1 1 (by decide) (by decide)).trans hgy, zCe_n FN hEy, (FN.1 10 1 (by decide) (by decide)).trans hry, zCc_F FN (by simp) (by simp) (by simp) hcy, ok, a, k, _, ho, rfl, Or.inr ⟨hok, hl60, i, v2, has, ti, Or.inr ⟨by omega, _, zKC_n FN hKy⟩⟩⟩
                  · refine w_alu (pc' := 99) (st' := [.long (Int64.ofNat kG1), .ref 3]) (ykc_138 (e := (0, .lconst kG1, 0)) rfl) rfl rfl ?_
                    refine w_br (pc' := 103) (st' := [.long (Int64.ofNat kG1), .ref 3]) (ykc_138 (e := (4, .goto 4, 103)) rfl) rfl ?_
                    refine w_cv (as := [.ref 3, .long (Int64.ofNat kG1)]) (r := []) (ykc_138 (e := (6, .invokevirtual 252, 0)) rfl) rfl rfl rfl rfl (zc_add (zN_S (show zFr [4] [(3, 1)] ph1647 ph1649 from (zFr_mono fn1 (by simp) (by simp))) hSy) (k := 0) gn1 (by decide)) (fun v1657 ph1658 hv => ?_)
                    obtain ⟨rfl, fn2, gn2⟩ := hv
                    show zW n D 138 Q 106 [some (.ref 0), some (.int (Int32.ofInt (-1))), some (.int (zn i))] [.ref 3] ph1658
                    refine w_load (pc' := 107) (v := .ref 0) (m := 1) (ykc_138 (e := (2, .aload_n kF0, 0)) rfl) rfl rfl ?_
                    refine w_gf (pc' := 110) (v := .ref 25) (ykc_138 (e := (5, .getfield 42, 0)) rfl) rfl ((fn2.1 0 4 (by decide) (by decide)).trans ((fn1.1 0 4 (by decide) (by decide)).trans ((fq.1 0 4 (by simp <;> omega) (by simp <;> omega)).trans ((fa.1 0 4 (by simp <;> omega) (by simp <;> omega)).trans ((hf.1 0 4 (by decide) (by decide)).trans ((fb.1 0 4 (by decide) (by decide)).trans ((f2.1 0 4 (by decide) (by decide)).trans ((f1.1 0 4 (by decide) (by decide)).trans (zsg hS zs_0_4))))))))) rfl ?_
                    refine w_gf (pc' := 113) (v := .int (zn (v2 40))) (ykc_138 (e := (5, .getfield 281, 0)) rfl) rfl ((fn2.1 25 2 (by decide) (by decide)).trans ((fn1.1 25 2 (by decide) (by decide)).trans hKy.2.1.2.2.2.2.1)) rfl ?_
                    refine w_alu (pc' := 114) (st' := [.long ((zn (v2 40)).toInt64), .ref 3]) (ykc_138 (e := (0, .i2l, 0)) rfl) rfl rfl ?_
                    refine w_cv (as := [.ref 3, .long ((zn (v2 40)).toInt64)]) (r := []) (ykc_138 (e := (6, .invokevirtual 252, 0)) rfl) rfl rfl rfl rfl (zc_add (zN_S (show zFr [4] [(3, 1)] ph1647 ph1658 from (zFr_trans (zFr_mono fn1 (by simp) (by simp)) (zFr_mono fn2 (by simp) (by simp)))) hSy) (k := 1) gn2 (by decide)) (fun v1659 ph1660 hv => ?_)
                    obtain ⟨rfl, fn3, gn3⟩ := hv
                    show zW n D 138 Q 117 [some (.ref 0), some (.int (Int32.ofInt (-1))), some (.int (zn i))] [.ref 3] ph1660
                    refine w_alu (pc' := 118) (st' := []) (ykc_138 (e := (0, .pop, 0)) rfl) rfl rfl ?_
                    refine w_load (pc' := 119) (v := .int (zn i)) (m := 1) (ykc_138 (e := (2, .iload_n kF2, 0)) rfl) rfl rfl ?_
                    refine w_ret (v := (some (.int (zn i)))) (ykc_138 (e := (7, .ireturn, 0)) rfl) (zr_v rfl) ?_
                    have FN := (show zFr [4] [(3, 1)] ph1647 ph1660 from (zFr_trans (zFr_trans (zFr_mono fn1 (by simp) (by simp)) (zFr_mono fn2 (by simp) (by simp))) (zFr_mono fn3 (by simp) (by simp))))
                    rw [hQ]
                    exact ⟨(FN.1 1 1 (by decide) (by decide)).trans hgy, zCe_n FN hEy, (FN.1 10 1 (by decide) (by decide)).trans hry, zCc_F FN (by simp) (by simp) (by simp) hcy, ok, a, k, _, ho, rfl, Or.inr ⟨hok, hl60, i, v2, has, ti, Or.inr ⟨by omega, _, zKC_n FN hKy⟩⟩⟩
                
              
            
      exact hl1 n 0 v _ (Nat.zero_le _) zFr_refl htb hcb rfl
      
    
  · have ha60 := zDo_a ho
    have ta := znt (k := a) (by omega)
    show zW n D 138 Q 11 [some (.ref 0), none, none] [.int (zn a)] ph1588
    refine w_store (pc' := 12) (L' := [some (.ref 0), some (.int (zn a)), none]) (st' := []) (m := 1) (ykc_138 (e := (3, .istore_n kF1, 0)) rfl) rfl rfl ?_
    refine w_load (pc' := 13) (v := .ref 0) (m := 1) (ykc_138 (e := (2, .aload_n kF0, 0)) rfl) rfl rfl ?_
    refine w_gf (pc' := 16) (v := .ref 1) (ykc_138 (e := (5, .getfield 10, 0)) rfl) rfl ((f1.1 0 0 (by decide) (by decide)).trans (zsg hS zs_0_0)) rfl ?_
    refine w_cv (as := [.ref 1]) (r := []) (ykc_138 (e := (6, .invokevirtual 119, 0)) rfl) rfl rfl rfl rfl (zc_tclear) (fun v1661 ph1662 hv => ?_)
    obtain ⟨rfl, f2, g1⟩ := hv
    have fz : zFr [158, 159] [(157, 2), (1, 1)] ph _ := zFr_trans (zFr_mono f1 (by simp) (by simp)) (zFr_mono f2 (by simp) (by simp))
    show zW n D 138 Q 19 [some (.ref 0), some (.int (zn a)), none] [] ph1662
    refine w_load (pc' := 20) (v := .int (zn a)) (m := 1) (ykc_138 (e := (2, .iload_n kF1, 0)) rfl) rfl rfl ?_
    refine w_zlt (ykc_138 (e := (4, .ifCond .lt 7, 27)) rfl) rfl (fun q => by exfalso; omega) (fun b1663 => ?_)
    refine w_alu (pc' := 24) (st' := [.int (Int32.ofInt (-1))]) (ykc_138 (e := (0, .iconst (-1), 0)) rfl) rfl rfl ?_
    refine w_load (pc' := 25) (v := .int (zn a)) (m := 1) (ykc_138 (e := (2, .iload_n kF1, 0)) rfl) rfl rfl ?_
    obtain ⟨z1664, e_z1664, h_z1664⟩ : ∃ zq : Int32, (Int32.ofInt (-1)) - (zn a) = zq ∧ zq.toInt = (-1 : Int) - ((a : Nat) : Int) := ⟨_, rfl, zm1sub (by omega) (by omega) (by omega)⟩
    refine w_alu (pc' := 26) (st' := [.int z1664]) (ykc_138 (e := (0, .isub, 0)) rfl) (by rw [← e_z1664]; rfl) rfl ?_
    refine w_ret (v := (some (.int z1664))) (ykc_138 (e := (7, .ireturn, 0)) rfl) (zr_v rfl) ?_
    rw [hQ]
    exact ⟨g1, zCe_pl fz hE, (fz.1 10 1 (by decide) (by decide)).trans hr, zCc_F fz (by simp) (by simp) (by simp) hc, ok, a, k, _, ho, rfl, Or.inl ⟨hno, by omega, zKC_pl fz hK⟩⟩
  
end
