/-! the reference reads a RULE, by W; printed by wip/z/z1i_mrule.py -/
def zMD (D j : Nat) (as : List Value) (ph : pm_H) (P : Option Value → pm_H → Prop) : Prop := ∀ r, pm_Rd kK false D j as ph r → P r.1 r.2.1
theorem zMD_mk {D j : Nat} {as : List Value} {ph : pm_H} {P : Option Value → pm_H → Prop} (h : ∀ n, zW n D j P 0 (pm_sl as ++ List.replicate ((pm_sig kK j).2.1 - (pm_sl as).length) none) [] ph) : zMD (D + 1) j as ph P := fun r hr => by
  obtain ⟨-, n, hn⟩ := hr
  exact h n n (Nat.le_refl n) 0 0 r hn
theorem w_cvD {n D j pc pc' aux na fi ci A : Nat} {Q : Option Value → pm_H → Prop} {L : List (Option Value)} {st r as : List Value} {ph : pm_H} {j' : Nat} {P : Option Value → pm_H → Prop} (hc : pm_code kK j pc = some (6, .invokevirtual fi, aux)) (hl : pm_lnk kK (pm_own kK j) fi = some (2, j', na, .ref ci)) (hd : st.drop na = .ref A :: r) (ha : .ref A :: (st.take na).reverse = as) (hp : pc + 3 = pc') (hz : zMD D j' as ph P) (kk : ∀ v ph', P v ph' → zW n D j Q pc' L (v.toList ++ r) ph') : zW n D j Q pc L st ph := fun k hk cs ss r9 hr => by
  subst hp ha
  cases k with
  | zero => exact hr.elim
  | succ k =>
    rw [pm_Tn] at hr
    unfold pm_step at hr
    simp only [hc] at hr
    cases hm : pm_inv kK (pm_own kK j) (.invokevirtual fi) st ph with
    | none => simp only [hm] at hr
    | some q =>
      obtain ⟨j2, as2, r2⟩ := q
      simp only [hm] at hr
      obtain ⟨v, ph', c1, s1, h1, h2⟩ := hr
      unfold pm_inv at hm
      simp only [hl, hd] at hm
      cases hA : pm_at ph A with
      | none => simp only [hA] at hm; cases hm
      | some c =>
        simp only [hA] at hm
        cases c with
        | inl c => simp only at hm; cases hm
        | inr c =>
          obtain ⟨cj, fs⟩ := c
          simp only at hm
          have hm := zbif hm
          cases hm
          exact kk v ph' (hz _ h1) k (by omega) _ _ r9 h2
/-- the codes read so far -/
def zRc (ph : pm_H) (cs : List Nat) : Prop := zc ph 170 24 = some (.int (zn cs.length)) ∧ ∀ i c, cs[i]? = some c → zc ph 180 (cs.length - 1 - i) = some (.int (zn c)) ∧ c ≤ 3000
theorem zRc_F {A : List Nat} {L : List (Nat × Nat)} {p q : pm_H} {cs : List Nat} (f : zFr A L p q) (h1 : 170 ∉ A ∧ 180 ∉ A) (h2 : (170, 24) ∉ L ∧ ∀ i, (180, i) ∉ L) (h : zRc p cs) : zRc q cs := ⟨(f.1 _ _ h1.1 h2.1).trans h.1, fun i c hc => ⟨(f.1 _ _ h1.2 (h2.2 _)).trans (h.2 i c hc).1, (h.2 i c hc).2⟩⟩
theorem zRc_c {p q : pm_H} {cs : List Nat} {c : Nat} (h : zRc p cs) (h1 : zc q 170 24 = some (.int (zn (cs.length + 1)))) (h2 : zc q 180 cs.length = some (.int (zn c))) (h3 : ∀ i, i ≠ cs.length → zc q 180 i = zc p 180 i) (hc : c ≤ 3000) : zRc q (c :: cs) := by
  refine ⟨h1, fun i x hx => ?_⟩
  cases i with
  | zero =>
    cases hx
    exact ⟨by rw [show (c :: cs).length - 1 - 0 = cs.length by simp]; exact h2, hc⟩
  | succ i =>
    have hx : cs[i]? = some x := hx
    have hi := (List.getElem?_eq_some_iff.mp hx).1
    obtain ⟨g1, g2⟩ := h.2 i x hx
    refine ⟨?_, g2⟩
    rw [show (c :: cs).length - 1 - (i + 1) = cs.length - 1 - i by simp; omega, h3 _ (by omega)]
    exact g1
def zRF (p q : pm_H) : Prop := zFr [180] [(170, 15), (170, 17), (170, 24)] p q
def zRp (b ln : Nat) (t : Nat → Nat) (ph : pm_H) (a ns : Nat) (cs : List Nat) : Prop := zTm ph a b ln t ∧ zc ph 170 17 = some (.int (zn ns)) ∧ zRc ph cs
def zRq (b ln : Nat) (t : Nat → Nat) (m a ns : Nat) (cs : List Nat) (ph : pm_H) (v0 : Option Value) (q : pm_H) : Prop := zRF ph q ∧ ∃ f ok a2 cs2, zde b t f m a ns cs = some (ok, a2, cs2) ∧ v0 = some (.int (zI ok)) ∧ zTm q a2 b ln t ∧ zRc q cs2 ∧ (ok = true → zc q 170 17 = some (.int (zn ns))) ∧ a ≤ a2 ∧ cs2.length + a ≤ cs.length + a2
def zIHr (b ln : Nat) (t : Nat → Nat) (D : Nat) : Prop := (∀ (ph : pm_H) (a ns : Nat) (cs : List Nat), zSh ph → zRp b ln t ph a ns cs → ns ≤ 4 → cs.length ≤ a → zMD D 213 [.ref 170] ph (zRq b ln t 3 a ns cs ph)) ∧ ∀ (ph : pm_H) (r : Nat) (x : Int32) (a ns : Nat) (cs : List Nat), zSh ph → x.toInt = (r : Int) → r ≤ 3 → zRp b ln t ph a ns cs → ns ≤ 4 → cs.length ≤ a → zMD D 214 [.ref 170, .int x] ph (zRq b ln t r a ns cs ph)
theorem zRF_S {p q : pm_H} (f : zRF p q) (h : zSh p) : zSh q := zSh_F f (by decide +kernel) h
/-- the signs of a rank's operators -/
theorem zrk_a : (∀ k, k < 3 → zrk2 0 (zls [60, 62, 61] k) = true ∧ zop (zls [60, 62, 61] k) = 2000 + k) ∧ (∀ k, k < 2 → zrk2 1 (zls [43, 45] k) = true ∧ zop (zls [43, 45] k) = 2003 + k) ∧ ∀ k, k < 2 → zrk2 2 (zls [42, 47] k) = true ∧ zop (zls [42, 47] k) = 2005 + k := by decide
theorem zrk_c {c : Nat} : (zrk2 0 c = true → ∃ k, k < 3 ∧ zls [60, 62, 61] k = c) ∧ (zrk2 1 c = true → ∃ k, k < 2 ∧ zls [43, 45] k = c) ∧ (zrk2 2 c = true → ∃ k, k < 2 ∧ zls [42, 47] k = c) := by
  refine ⟨fun h => ?_, fun h => ?_, fun h => ?_⟩
  all_goals
    obtain ⟨h1, h2⟩ := of_decide_eq_true h
    unfold zop at h1 h2
    repeat' split at h1
    all_goals first | exact absurd rfl h1 | skip
    all_goals first | exact ⟨0, by decide, by subst_vars; rfl⟩ | exact ⟨1, by decide, by subst_vars; rfl⟩ | exact ⟨2, by decide, by subst_vars; rfl⟩ | (subst_vars; exact absurd h2 (by decide))
theorem zm_num3 {ph : pm_H} {a b ln : Nat} {t : Nat → Nat} (hS : zSh ph) (hT : zTm ph a b ln t) (hd : a < b) (hdg : zdi (t a) = true) : zM 199 [.ref 170, .int (Int32.ofInt 3)] ph (fun v0 q => zFr [] [(170, 15)] ph q ∧ v0 = some (.int (zn (znv t a (zdc b t a)))) ∧ zTm q (a + zdc b t a) b ln t ∧ znv t a (zdc b t a) < 1000 ∧ 1 ≤ zdc b t a) := by
  obtain ⟨Q, hQ⟩ : ∃ Q : Option Value → pm_H → Prop, Q = (fun v0 q => zFr [] [(170, 15)] ph q ∧ v0 = some (.int (zn (znv t a (zdc b t a)))) ∧ zTm q (a + zdc b t a) b ln t ∧ znv t a (zdc b t a) < 1000 ∧ 1 ≤ zdc b t a) := ⟨_, rfl⟩
  rw [← hQ]
  refine zM_mk fun n D => ?_
  show zW n D 199 Q 0 [some (.ref 170), some (.int (Int32.ofInt 3)), none, none] [] ph
  have c_0 : ((Int8.ofInt 10).toInt32).toInt = 10 := by decide
  have c_1 : ((Int8.ofInt 48).toInt32).toInt = 48 := by decide
  have c_2 : (Int32.ofInt (-1)).toInt = -1 := by decide
  have c_3 : (Int32.ofInt 0).toInt = 0 := by decide
  have c_4 : (Int32.ofInt 1).toInt = 1 := by decide
  have t3 : (Int32.ofInt 3).toInt = 3 := by decide
  have hT0 := hT
  have hd0 : 48 ≤ t a ∧ t a ≤ 57 := of_decide_eq_true hdg
  have e1 : znv t a 1 = t a - 48 := by show 10 * 0 + (t (a + 0) - 48) = _; rw [Nat.add_zero]; omega
  have e2 : znv t a 2 = 10 * znv t a 1 + (t (a + 1) - 48) := rfl
  have e3 : znv t a 3 = 10 * znv t a 2 + (t (a + 1 + 1) - 48) := rfl
  obtain ⟨ga, gb, hab, hbn, hn80, gt⟩ := hT
  have ta := znt (k := a) (by omega)
  have tb := znt (k := b) (by omega)
  refine w_load (pc' := 1) (v := .ref 170) (m := 1) (ykc_199 (e := (2, .aload_n kF0, 0)) rfl) rfl rfl ?_
  refine w_cv (as := [.ref 170]) (r := []) (ykc_199 (e := (6, .invokevirtual 171, 0)) rfl) rfl rfl rfl rfl (zm_isDigit hS hT0) (fun v1517 ph1518 hv => ?_)
  obtain ⟨rfl, rfl⟩ := hv
  show zW n D 199 Q 4 [some (.ref 170), some (.int (Int32.ofInt 3)), none, none] [.int (zI (decide (a < b ∧ 48 ≤ t a ∧ t a ≤ 57)))] ph
  refine w_bne (ykc_199 (e := (4, .ifCond .ne 5, 9)) rfl) rfl (fun b1519 => ?_) (fun q => absurd q (by rw [decide_eq_true (show a < b ∧ 48 ≤ t a ∧ t a ≤ 57 from ⟨hd, hd0⟩)]; decide))
  refine w_alu (pc' := 10) (st' := [.int (Int32.ofInt 0)]) (ykc_199 (e := (0, .iconst 0, 0)) rfl) rfl rfl ?_
  refine w_store (pc' := 11) (L' := [some (.ref 170), some (.int (Int32.ofInt 3)), some (.int (Int32.ofInt 0)), none]) (st' := []) (m := 1) (ykc_199 (e := (3, .istore_n kF2, 0)) rfl) rfl rfl ?_
  refine w_alu (pc' := 12) (st' := [.int (Int32.ofInt 0)]) (ykc_199 (e := (0, .iconst 0, 0)) rfl) rfl rfl ?_
  refine w_store (pc' := 13) (L' := [some (.ref 170), some (.int (Int32.ofInt 3)), some (.int (Int32.ofInt 0)), some (.int (Int32.ofInt 0))]) (st' := []) (m := 1) (ykc_199 (e := (3, .istore_n kF3, 0)) rfl) rfl rfl ?_
  refine w_load (pc' := 14) (v := .int (Int32.ofInt 0)) (m := 1) (ykc_199 (e := (2, .iload_n kF3, 0)) rfl) rfl rfl ?_
  refine w_load (pc' := 15) (v := .int (Int32.ofInt 3)) (m := 1) (ykc_199 (e := (2, .iload_n kF1, 0)) rfl) rfl rfl ?_
  refine w_ige (ykc_199 (e := (4, .if_icmp .ge 44, 59)) rfl) rfl (fun q => by exfalso; omega) (fun b1520 => ?_)
  refine w_load (pc' := 19) (v := .ref 170) (m := 1) (ykc_199 (e := (2, .aload_n kF0, 0)) rfl) rfl rfl ?_
  refine w_cv (as := [.ref 170]) (r := []) (ykc_199 (e := (6, .invokevirtual 171, 0)) rfl) rfl rfl rfl rfl (zm_isDigit hS hT0) (fun v1521 ph1522 hv => ?_)
  obtain ⟨rfl, rfl⟩ := hv
  show zW n D 199 Q 22 [some (.ref 170), some (.int (Int32.ofInt 3)), some (.int (Int32.ofInt 0)), some (.int (Int32.ofInt 0))] [.int (zI (decide (a < b ∧ 48 ≤ t a ∧ t a ≤ 57)))] ph
  refine w_beq (ykc_199 (e := (4, .ifCond .eq 37, 59)) rfl) rfl (fun q => absurd q (by rw [decide_eq_true (show a < b ∧ 48 ≤ t a ∧ t a ≤ 57 from ⟨hd, hd0⟩)]; decide)) (fun b1523 => ?_)
  refine w_push (pc' := 27) (v := .int ((Int8.ofInt 10).toInt32)) (m := 2) (ykc_199 (e := (1, .bipush 10, 0)) rfl) rfl rfl ?_
  refine w_load (pc' := 28) (v := .int (Int32.ofInt 0)) (m := 1) (ykc_199 (e := (2, .iload_n kF2, 0)) rfl) rfl rfl ?_
  have e1524 : ((Int8.ofInt 10).toInt32) * (Int32.ofInt 0) = zn (0) := zn_of (by rw [ti_mul (by rw [show ((Int8.ofInt 10).toInt32).toInt = (10 : Int) by omega, show (Int32.ofInt 0).toInt = (0 : Int) by omega]; omega) (by rw [show ((Int8.ofInt 10).toInt32).toInt = (10 : Int) by omega, show (Int32.ofInt 0).toInt = (0 : Int) by omega]; omega), show ((Int8.ofInt 10).toInt32).toInt = (10 : Int) by omega, show (Int32.ofInt 0).toInt = (0 : Int) by omega] <;> omega)
  have te1524 := znt (k := 0) (by omega)
  refine w_alu (pc' := 29) (st' := [.int (zn (0))]) (ykc_199 (e := (0, .imul, 0)) rfl) (by rw [← e1524]; rfl) rfl ?_
  refine w_load (pc' := 30) (v := .ref 170) (m := 1) (ykc_199 (e := (2, .aload_n kF0, 0)) rfl) rfl rfl ?_
  refine w_gf (pc' := 33) (v := .ref 176) (ykc_199 (e := (5, .getfield 47, 0)) rfl) rfl (zsg hS zs_170_13) rfl ?_
  refine w_load (pc' := 34) (v := .ref 170) (m := 1) (ykc_199 (e := (2, .aload_n kF0, 0)) rfl) rfl rfl ?_
  refine w_gf (pc' := 37) (v := .int (zn a)) (ykc_199 (e := (5, .getfield 139, 0)) rfl) rfl ga rfl ?_
  have q1525 := (gt a (by omega)).2
  have tq1525 := znt (k := t a) (by omega)
  refine w_ialk (pc' := 38) (k := a) (ykc_199 (e := (5, .iaload, 0)) rfl) (gt a (by omega)).1 (by omega) rfl ?_
  have e1526 : (zn (0)) + (zn (t a)) = zn (0 + (t a)) := (zaddN (a := 0) (b := t a) (znt (by omega)) (znt (by omega)) (by omega)) 
  have te1526 := znt (k := 0 + (t a)) (by omega)
  refine w_alu (pc' := 39) (st' := [.int (zn (0 + (t a)))]) (ykc_199 (e := (0, .iadd, 0)) rfl) (by rw [← e1526]; rfl) rfl ?_
  refine w_push (pc' := 41) (v := .int ((Int8.ofInt 48).toInt32)) (m := 2) (ykc_199 (e := (1, .bipush 48, 0)) rfl) rfl rfl ?_
  have e1527 : (zn (0 + (t a))) - ((Int8.ofInt 48).toInt32) = zn (znv t a 1) := zn_of (by have h8 := ti_sub (x := (zn (0 + (t a)))) (y := ((Int8.ofInt 48).toInt32)) (by omega) (by omega); omega)
  have te1527 := znt (k := znv t a 1) (by omega)
  refine w_alu (pc' := 42) (st' := [.int (zn (znv t a 1))]) (ykc_199 (e := (0, .isub, 0)) rfl) (by rw [← e1527]; rfl) rfl ?_
  refine w_store (pc' := 43) (L' := [some (.ref 170), some (.int (Int32.ofInt 3)), some (.int (zn (znv t a 1))), some (.int (Int32.ofInt 0))]) (st' := []) (m := 1) (ykc_199 (e := (3, .istore_n kF2, 0)) rfl) rfl rfl ?_
  refine w_load (pc' := 44) (v := .ref 170) (m := 1) (ykc_199 (e := (2, .aload_n kF0, 0)) rfl) rfl rfl ?_
  refine w_alu (pc' := 45) (st' := [.ref 170, .ref 170]) (ykc_199 (e := (0, .dup, 0)) rfl) rfl rfl ?_
  refine w_gf (pc' := 48) (v := .int (zn a)) (ykc_199 (e := (5, .getfield 139, 0)) rfl) rfl ga rfl ?_
  refine w_alu (pc' := 49) (st' := [.int (Int32.ofInt 1), .int (zn a), .ref 170]) (ykc_199 (e := (0, .iconst 1, 0)) rfl) rfl rfl ?_
  have e1528 : (zn a) + (Int32.ofInt 1) = zn (a + 1) := (zaddN (a := a) (b := 1) (znt (by omega)) c_4 (by omega)) 
  have te1528 := znt (k := a + 1) (by omega)
  refine w_alu (pc' := 50) (st' := [.int (zn (a + 1)), .ref 170]) (ykc_199 (e := (0, .iadd, 0)) rfl) (by rw [← e1528]; rfl) rfl ?_
  refine w_pf (pc' := 53) (ykc_199 (e := (5, .putfield 139, 0)) rfl) rfl rfl (fun ph1530 u1529 => ?_)
  have e1531 : (Int32.ofInt 0) + Int32.ofInt 1 = zn (0 + 1) := (zaddN (a := 0) (b := 1) c_3 c_4 (by omega))
  have te1531 := znt (k := 0 + 1) (by omega)
  refine w_store (pc' := 56) (L' := [some (.ref 170), some (.int (Int32.ofInt 3)), some (.int (zn (znv t a 1))), some (.int (zn (0 + 1)))]) (st' := []) (m := 3) (ykc_199 (e := (3, .iinc 3 1, 0)) rfl) (by rw [← e1531]; rfl) rfl ?_
  refine w_br (pc' := 13) (st' := []) (ykc_199 (e := (4, .goto (-43), 13)) rfl) rfl ?_
  refine w_load (pc' := 14) (v := .int (zn (0 + 1))) (m := 1) (ykc_199 (e := (2, .iload_n kF3, 0)) rfl) rfl rfl ?_
  refine w_load (pc' := 15) (v := .int (Int32.ofInt 3)) (m := 1) (ykc_199 (e := (2, .iload_n kF1, 0)) rfl) rfl rfl ?_
  refine w_ige (ykc_199 (e := (4, .if_icmp .ge 44, 59)) rfl) rfl (fun q => by exfalso; omega) (fun b1532 => ?_)
  refine w_load (pc' := 19) (v := .ref 170) (m := 1) (ykc_199 (e := (2, .aload_n kF0, 0)) rfl) rfl rfl ?_
  have hT1 := zTm_u u1529 (a' := a + 1) (by omega) hT0
  refine w_cv (as := [.ref 170]) (r := []) (ykc_199 (e := (6, .invokevirtual 171, 0)) rfl) rfl rfl rfl rfl (zm_isDigit (zSh_F ((zFr_st u1529 (Or.inr (by simp))) : zFr [] [(170, 15)] ph _) (by decide +kernel) hS) hT1) (fun v1533 ph1534 hv => ?_)
  obtain ⟨rfl, rfl⟩ := hv
  show zW n D 199 Q 22 [some (.ref 170), some (.int (Int32.ofInt 3)), some (.int (zn (znv t a 1))), some (.int (zn (0 + 1)))] [.int (zI (decide (a + 1 < b ∧ 48 ≤ t (a + 1) ∧ t (a + 1) ≤ 57)))] ph1530
  refine w_beq (ykc_199 (e := (4, .ifCond .eq 37, 59)) rfl) rfl (fun b1535 => ?_) (fun b1535 => ?_)
  · refine w_load (pc' := 60) (v := .int (zn (znv t a 1))) (m := 1) (ykc_199 (e := (2, .iload_n kF2, 0)) rfl) rfl rfl ?_
    refine w_ret (v := (some (.int (zn (znv t a 1))))) (ykc_199 (e := (7, .ireturn, 0)) rfl) (zr_v rfl) ?_
    rw [hQ]
    have hnn := of_decide_eq_false b1535
    have ez : zdc b t a = 1 := by unfold zdc; rw [if_neg (fun q => hnn ⟨q.1, of_decide_eq_true q.2⟩)]
    rw [ez]
    exact ⟨(zFr_st u1529 (Or.inr (by simp))), rfl, hT1, by omega, by decide⟩
  · refine w_push (pc' := 27) (v := .int ((Int8.ofInt 10).toInt32)) (m := 2) (ykc_199 (e := (1, .bipush 10, 0)) rfl) rfl rfl ?_
    have hdd1 := of_decide_eq_true b1535
    refine w_load (pc' := 28) (v := .int (zn (znv t a 1))) (m := 1) (ykc_199 (e := (2, .iload_n kF2, 0)) rfl) rfl rfl ?_
    have e1536 : ((Int8.ofInt 10).toInt32) * (zn (znv t a 1)) = zn (10 * (znv t a 1)) := zn_of (by rw [ti_mul (by rw [show ((Int8.ofInt 10).toInt32).toInt = (10 : Int) by omega, show (zn (znv t a 1)).toInt = ((znv t a 1 : Nat) : Int) by omega]; omega) (by rw [show ((Int8.ofInt 10).toInt32).toInt = (10 : Int) by omega, show (zn (znv t a 1)).toInt = ((znv t a 1 : Nat) : Int) by omega]; omega), show ((Int8.ofInt 10).toInt32).toInt = (10 : Int) by omega, show (zn (znv t a 1)).toInt = ((znv t a 1 : Nat) : Int) by omega] <;> omega)
    have te1536 := znt (k := 10 * (znv t a 1)) (by omega)
    refine w_alu (pc' := 29) (st' := [.int (zn (10 * (znv t a 1)))]) (ykc_199 (e := (0, .imul, 0)) rfl) (by rw [← e1536]; rfl) rfl ?_
    refine w_load (pc' := 30) (v := .ref 170) (m := 1) (ykc_199 (e := (2, .aload_n kF0, 0)) rfl) rfl rfl ?_
    refine w_gf (pc' := 33) (v := .ref 176) (ykc_199 (e := (5, .getfield 47, 0)) rfl) rfl ((u1529.2.1 170 13 (fun q => absurd q.2 (by decide))).trans (zsg hS zs_170_13)) rfl ?_
    refine w_load (pc' := 34) (v := .ref 170) (m := 1) (ykc_199 (e := (2, .aload_n kF0, 0)) rfl) rfl rfl ?_
    refine w_gf (pc' := 37) (v := .int (zn (a + 1))) (ykc_199 (e := (5, .getfield 139, 0)) rfl) rfl u1529.1 rfl ?_
    have q1537 := (gt (a + 1) (by omega)).2
    have tq1537 := znt (k := t (a + 1)) (by omega)
    refine w_ialk (pc' := 38) (k := a + 1) (ykc_199 (e := (5, .iaload, 0)) rfl) ((u1529.2.1 176 (a + 1) (fun q => absurd q.1 (by decide))).trans (gt (a + 1) (by omega)).1) (by omega) rfl ?_
    have e1538 : (zn (10 * (znv t a 1))) + (zn (t (a + 1))) = zn (10 * (znv t a 1) + (t (a + 1))) := (zaddN (a := 10 * (znv t a 1)) (b := t (a + 1)) (znt (by omega)) (znt (by omega)) (by omega)) 
    have te1538 := znt (k := 10 * (znv t a 1) + (t (a + 1))) (by omega)
    refine w_alu (pc' := 39) (st' := [.int (zn (10 * (znv t a 1) + (t (a + 1))))]) (ykc_199 (e := (0, .iadd, 0)) rfl) (by rw [← e1538]; rfl) rfl ?_
    refine w_push (pc' := 41) (v := .int ((Int8.ofInt 48).toInt32)) (m := 2) (ykc_199 (e := (1, .bipush 48, 0)) rfl) rfl rfl ?_
    have e1539 : (zn (10 * (znv t a 1) + (t (a + 1)))) - ((Int8.ofInt 48).toInt32) = zn (znv t a 2) := zn_of (by have h8 := ti_sub (x := (zn (10 * (znv t a 1) + (t (a + 1))))) (y := ((Int8.ofInt 48).toInt32)) (by omega) (by omega); omega)
    have te1539 := znt (k := znv t a 2) (by omega)
    refine w_alu (pc' := 42) (st' := [.int (zn (znv t a 2))]) (ykc_199 (e := (0, .isub, 0)) rfl) (by rw [← e1539]; rfl) rfl ?_
    refine w_store (pc' := 43) (L' := [some (.ref 170), some (.int (Int32.ofInt 3)), some (.int (zn (znv t a 2))), some (.int (zn (0 + 1)))]) (st' := []) (m := 1) (ykc_199 (e := (3, .istore_n kF2, 0)) rfl) rfl rfl ?_
    refine w_load (pc' := 44) (v := .ref 170) (m := 1) (ykc_199 (e := (2, .aload_n kF0, 0)) rfl) rfl rfl ?_
    refine w_alu (pc' := 45) (st' := [.ref 170, .ref 170]) (ykc_199 (e := (0, .dup, 0)) rfl) rfl rfl ?_
    refine w_gf (pc' := 48) (v := .int (zn (a + 1))) (ykc_199 (e := (5, .getfield 139, 0)) rfl) rfl u1529.1 rfl ?_
    refine w_alu (pc' := 49) (st' := [.int (Int32.ofInt 1), .int (zn (a + 1)), .ref 170]) (ykc_199 (e := (0, .iconst 1, 0)) rfl) rfl rfl ?_
    have e1540 : (zn (a + 1)) + (Int32.ofInt 1) = zn (a + 1 + 1) := (zaddN (a := a + 1) (b := 1) (znt (by omega)) c_4 (by omega)) 
    have te1540 := znt (k := a + 1 + 1) (by omega)
    refine w_alu (pc' := 50) (st' := [.int (zn (a + 1 + 1)), .ref 170]) (ykc_199 (e := (0, .iadd, 0)) rfl) (by rw [← e1540]; rfl) rfl ?_
    refine w_pf (pc' := 53) (ykc_199 (e := (5, .putfield 139, 0)) rfl) rfl rfl (fun ph1542 u1541 => ?_)
    have e1543 : (zn (0 + 1)) + Int32.ofInt 1 = zn (0 + 1 + 1) := (zaddN (a := 0 + 1) (b := 1) (znt (by omega)) c_4 (by omega))
    have te1543 := znt (k := 0 + 1 + 1) (by omega)
    refine w_store (pc' := 56) (L' := [some (.ref 170), some (.int (Int32.ofInt 3)), some (.int (zn (znv t a 2))), some (.int (zn (0 + 1 + 1)))]) (st' := []) (m := 3) (ykc_199 (e := (3, .iinc 3 1, 0)) rfl) (by rw [← e1543]; rfl) rfl ?_
    refine w_br (pc' := 13) (st' := []) (ykc_199 (e := (4, .goto (-43), 13)) rfl) rfl ?_
    refine w_load (pc' := 14) (v := .int (zn (0 + 1 + 1))) (m := 1) (ykc_199 (e := (2, .iload_n kF3, 0)) rfl) rfl rfl ?_
    refine w_load (pc' := 15) (v := .int (Int32.ofInt 3)) (m := 1) (ykc_199 (e := (2, .iload_n kF1, 0)) rfl) rfl rfl ?_
    refine w_ige (ykc_199 (e := (4, .if_icmp .ge 44, 59)) rfl) rfl (fun q => by exfalso; omega) (fun b1544 => ?_)
    refine w_load (pc' := 19) (v := .ref 170) (m := 1) (ykc_199 (e := (2, .aload_n kF0, 0)) rfl) rfl rfl ?_
    have hT2 := zTm_u u1541 (a' := a + 1 + 1) (by omega) hT1
    refine w_cv (as := [.ref 170]) (r := []) (ykc_199 (e := (6, .invokevirtual 171, 0)) rfl) rfl rfl rfl rfl (zm_isDigit (zSh_F ((zFr_trans (zFr_st u1529 (Or.inr (by simp))) (zFr_st u1541 (Or.inr (by simp)))) : zFr [] [(170, 15)] ph _) (by decide +kernel) hS) hT2) (fun v1545 ph1546 hv => ?_)
    obtain ⟨rfl, rfl⟩ := hv
    show zW n D 199 Q 22 [some (.ref 170), some (.int (Int32.ofInt 3)), some (.int (zn (znv t a 2))), some (.int (zn (0 + 1 + 1)))] [.int (zI (decide (a + 1 + 1 < b ∧ 48 ≤ t (a + 1 + 1) ∧ t (a + 1 + 1) ≤ 57)))] ph1542
    refine w_beq (ykc_199 (e := (4, .ifCond .eq 37, 59)) rfl) rfl (fun b1547 => ?_) (fun b1547 => ?_)
    · refine w_load (pc' := 60) (v := .int (zn (znv t a 2))) (m := 1) (ykc_199 (e := (2, .iload_n kF2, 0)) rfl) rfl rfl ?_
      refine w_ret (v := (some (.int (zn (znv t a 2))))) (ykc_199 (e := (7, .ireturn, 0)) rfl) (zr_v rfl) ?_
      rw [hQ]
      have hnn := of_decide_eq_false b1547
      have ez : zdc b t a = 2 := by unfold zdc; rw [if_pos ⟨hdd1.1, decide_eq_true hdd1.2⟩, if_neg (fun q => hnn ⟨q.1, of_decide_eq_true q.2⟩)]
      rw [ez]
      exact ⟨(zFr_trans (zFr_st u1529 (Or.inr (by simp))) (zFr_st u1541 (Or.inr (by simp)))), rfl, hT2, by omega, by decide⟩
    · refine w_push (pc' := 27) (v := .int ((Int8.ofInt 10).toInt32)) (m := 2) (ykc_199 (e := (1, .bipush 10, 0)) rfl) rfl rfl ?_
      have hdd2 := of_decide_eq_true b1547
      refine w_load (pc' := 28) (v := .int (zn (znv t a 2))) (m := 1) (ykc_199 (e := (2, .iload_n kF2, 0)) rfl) rfl rfl ?_
      have e1548 : ((Int8.ofInt 10).toInt32) * (zn (znv t a 2)) = zn (10 * (znv t a 2)) := zn_of (by rw [ti_mul (by rw [show ((Int8.ofInt 10).toInt32).toInt = (10 : Int) by omega, show (zn (znv t a 2)).toInt = ((znv t a 2 : Nat) : Int) by omega]; omega) (by rw [show ((Int8.ofInt 10).toInt32).toInt = (10 : Int) by omega, show (zn (znv t a 2)).toInt = ((znv t a 2 : Nat) : Int) by omega]; omega), show ((Int8.ofInt 10).toInt32).toInt = (10 : Int) by omega, show (zn (znv t a 2)).toInt = ((znv t a 2 : Nat) : Int) by omega] <;> omega)
      have te1548 := znt (k := 10 * (znv t a 2)) (by omega)
      refine w_alu (pc' := 29) (st' := [.int (zn (10 * (znv t a 2)))]) (ykc_199 (e := (0, .imul, 0)) rfl) (by rw [← e1548]; rfl) rfl ?_
      refine w_load (pc' := 30) (v := .ref 170) (m := 1) (ykc_199 (e := (2, .aload_n kF0, 0)) rfl) rfl rfl ?_
      refine w_gf (pc' := 33) (v := .ref 176) (ykc_199 (e := (5, .getfield 47, 0)) rfl) rfl ((u1541.2.1 170 13 (fun q => absurd q.2 (by decide))).trans ((u1529.2.1 170 13 (fun q => absurd q.2 (by decide))).trans (zsg hS zs_170_13))) rfl ?_
      refine w_load (pc' := 34) (v := .ref 170) (m := 1) (ykc_199 (e := (2, .aload_n kF0, 0)) rfl) rfl rfl ?_
      refine w_gf (pc' := 37) (v := .int (zn (a + 1 + 1))) (ykc_199 (e := (5, .getfield 139, 0)) rfl) rfl u1541.1 rfl ?_
      have q1549 := (gt (a + 1 + 1) (by omega)).2
      have tq1549 := znt (k := t (a + 1 + 1)) (by omega)
      refine w_ialk (pc' := 38) (k := a + 1 + 1) (ykc_199 (e := (5, .iaload, 0)) rfl) ((u1541.2.1 176 (a + 1 + 1) (fun q => absurd q.1 (by decide))).trans ((u1529.2.1 176 (a + 1 + 1) (fun q => absurd q.1 (by decide))).trans (gt (a + 1 + 1) (by omega)).1)) (by omega) rfl ?_
      have e1550 : (zn (10 * (znv t a 2))) + (zn (t (a + 1 + 1))) = zn (10 * (znv t a 2) + (t (a + 1 + 1))) := (zaddN (a := 10 * (znv t a 2)) (b := t (a + 1 + 1)) (znt (by omega)) (znt (by omega)) (by omega)) 
      have te1550 := znt (k := 10 * (znv t a 2) + (t (a + 1 + 1))) (by omega)
      refine w_alu (pc' := 39) (st' := [.int (zn (10 * (znv t a 2) + (t (a + 1 + 1))))]) (ykc_199 (e := (0, .iadd, 0)) rfl) (by rw [← e1550]; rfl) rfl ?_
      refine w_push (pc' := 41) (v := .int ((Int8.ofInt 48).toInt32)) (m := 2) (ykc_199 (e := (1, .bipush 48, 0)) rfl) rfl rfl ?_
      have e1551 : (zn (10 * (znv t a 2) + (t (a + 1 + 1)))) - ((Int8.ofInt 48).toInt32) = zn (znv t a 3) := zn_of (by have h8 := ti_sub (x := (zn (10 * (znv t a 2) + (t (a + 1 + 1))))) (y := ((Int8.ofInt 48).toInt32)) (by omega) (by omega); omega)
      have te1551 := znt (k := znv t a 3) (by omega)
      refine w_alu (pc' := 42) (st' := [.int (zn (znv t a 3))]) (ykc_199 (e := (0, .isub, 0)) rfl) (by rw [← e1551]; rfl) rfl ?_
      refine w_store (pc' := 43) (L' := [some (.ref 170), some (.int (Int32.ofInt 3)), some (.int (zn (znv t a 3))), some (.int (zn (0 + 1 + 1)))]) (st' := []) (m := 1) (ykc_199 (e := (3, .istore_n kF2, 0)) rfl) rfl rfl ?_
      refine w_load (pc' := 44) (v := .ref 170) (m := 1) (ykc_199 (e := (2, .aload_n kF0, 0)) rfl) rfl rfl ?_
      refine w_alu (pc' := 45) (st' := [.ref 170, .ref 170]) (ykc_199 (e := (0, .dup, 0)) rfl) rfl rfl ?_
      refine w_gf (pc' := 48) (v := .int (zn (a + 1 + 1))) (ykc_199 (e := (5, .getfield 139, 0)) rfl) rfl u1541.1 rfl ?_
      refine w_alu (pc' := 49) (st' := [.int (Int32.ofInt 1), .int (zn (a + 1 + 1)), .ref 170]) (ykc_199 (e := (0, .iconst 1, 0)) rfl) rfl rfl ?_
      have e1552 : (zn (a + 1 + 1)) + (Int32.ofInt 1) = zn (a + 1 + 1 + 1) := (zaddN (a := a + 1 + 1) (b := 1) (znt (by omega)) c_4 (by omega)) 
      have te1552 := znt (k := a + 1 + 1 + 1) (by omega)
      refine w_alu (pc' := 50) (st' := [.int (zn (a + 1 + 1 + 1)), .ref 170]) (ykc_199 (e := (0, .iadd, 0)) rfl) (by rw [← e1552]; rfl) rfl ?_
      refine w_pf (pc' := 53) (ykc_199 (e := (5, .putfield 139, 0)) rfl) rfl rfl (fun ph1554 u1553 => ?_)
      have e1555 : (zn (0 + 1 + 1)) + Int32.ofInt 1 = zn (0 + 1 + 1 + 1) := (zaddN (a := 0 + 1 + 1) (b := 1) (znt (by omega)) c_4 (by omega))
      have te1555 := znt (k := 0 + 1 + 1 + 1) (by omega)
      refine w_store (pc' := 56) (L' := [some (.ref 170), some (.int (Int32.ofInt 3)), some (.int (zn (znv t a 3))), some (.int (zn (0 + 1 + 1 + 1)))]) (st' := []) (m := 3) (ykc_199 (e := (3, .iinc 3 1, 0)) rfl) (by rw [← e1555]; rfl) rfl ?_
      refine w_br (pc' := 13) (st' := []) (ykc_199 (e := (4, .goto (-43), 13)) rfl) rfl ?_
      refine w_load (pc' := 14) (v := .int (zn (0 + 1 + 1 + 1))) (m := 1) (ykc_199 (e := (2, .iload_n kF3, 0)) rfl) rfl rfl ?_
      refine w_load (pc' := 15) (v := .int (Int32.ofInt 3)) (m := 1) (ykc_199 (e := (2, .iload_n kF1, 0)) rfl) rfl rfl ?_
      refine w_ige (ykc_199 (e := (4, .if_icmp .ge 44, 59)) rfl) rfl (fun b1556 => ?_) (fun q => by exfalso; omega)
      refine w_load (pc' := 60) (v := .int (zn (znv t a 3))) (m := 1) (ykc_199 (e := (2, .iload_n kF2, 0)) rfl) rfl rfl ?_
      refine w_ret (v := (some (.int (zn (znv t a 3))))) (ykc_199 (e := (7, .ireturn, 0)) rfl) (zr_v rfl) ?_
      rw [hQ]
      have ez : zdc b t a = 3 := by unfold zdc; rw [if_pos ⟨hdd1.1, decide_eq_true hdd1.2⟩, if_pos ⟨hdd2.1, decide_eq_true hdd2.2⟩]
      rw [ez]
      exact ⟨(zFr_trans (zFr_trans (zFr_st u1529 (Or.inr (by simp))) (zFr_st u1541 (Or.inr (by simp)))) (zFr_st u1553 (Or.inr (by simp)))), rfl, (zTm_u u1553 (a' := a + 1 + 1 + 1) (by omega) hT2), by omega, by decide⟩
theorem zm_codes {ph : pm_H} {cs : List Nat} {c : Nat} {x : Int32} (hS : zSh ph) (hR : zRc ph cs) (hx : x = zn c) (hc : c ≤ 3000) (hl : cs.length < 80) : zM 212 [.ref 170, .int x] ph (fun v0 q => v0 = none ∧ zFr [180] [(170, 24)] ph q ∧ zRc q (c :: cs)) := by
  obtain ⟨Q, hQ⟩ : ∃ Q : Option Value → pm_H → Prop, Q = (fun v0 q => v0 = none ∧ zFr [180] [(170, 24)] ph q ∧ zRc q (c :: cs)) := ⟨_, rfl⟩
  rw [← hQ]
  refine zM_mk fun n D => ?_
  show zW n D 212 Q 0 [some (.ref 170), some (.int x)] [] ph
  have c_0 : (Int32.ofInt 1).toInt = 1 := by decide
  have tl := znt (k := cs.length) (by omega)
  refine w_load (pc' := 1) (v := .ref 170) (m := 1) (ykc_212 (e := (2, .aload_n kF0, 0)) rfl) rfl rfl ?_
  refine w_gf (pc' := 4) (v := .ref 180) (ykc_212 (e := (5, .getfield 59, 0)) rfl) rfl (zsg hS zs_170_22) rfl ?_
  refine w_load (pc' := 5) (v := .ref 170) (m := 1) (ykc_212 (e := (2, .aload_n kF0, 0)) rfl) rfl rfl ?_
  refine w_gf (pc' := 8) (v := .int (zn cs.length)) (ykc_212 (e := (5, .getfield 227, 0)) rfl) rfl hR.1 rfl ?_
  refine w_load (pc' := 9) (v := .int x) (m := 1) (ykc_212 (e := (2, .iload_n kF1, 0)) rfl) rfl rfl ?_
  refine w_ias (pc' := 10) (k := cs.length) (ykc_212 (e := (5, .iastore, 0)) rfl) (by omega) rfl (fun ph1558 u1557 => ?_)
  refine w_load (pc' := 11) (v := .ref 170) (m := 1) (ykc_212 (e := (2, .aload_n kF0, 0)) rfl) rfl rfl ?_
  refine w_alu (pc' := 12) (st' := [.ref 170, .ref 170]) (ykc_212 (e := (0, .dup, 0)) rfl) rfl rfl ?_
  refine w_gf (pc' := 15) (v := .int (zn cs.length)) (ykc_212 (e := (5, .getfield 227, 0)) rfl) rfl ((u1557.2.1 170 24 (fun q => absurd q.1 (by decide))).trans hR.1) rfl ?_
  refine w_alu (pc' := 16) (st' := [.int (Int32.ofInt 1), .int (zn cs.length), .ref 170]) (ykc_212 (e := (0, .iconst 1, 0)) rfl) rfl rfl ?_
  have e1559 : (zn cs.length) + (Int32.ofInt 1) = zn (cs.length + 1) := (zaddN (a := cs.length) (b := 1) (znt (by omega)) c_0 (by omega)) 
  have te1559 := znt (k := cs.length + 1) (by omega)
  refine w_alu (pc' := 17) (st' := [.int (zn (cs.length + 1)), .ref 170]) (ykc_212 (e := (0, .iadd, 0)) rfl) (by rw [← e1559]; rfl) rfl ?_
  refine w_pf (pc' := 20) (ykc_212 (e := (5, .putfield 227, 0)) rfl) rfl rfl (fun ph1561 u1560 => ?_)
  refine w_ret (v := none) (ykc_212 (e := (7, .return_, 0)) rfl) (zr_v rfl) ?_
  rw [hQ]
  exact ⟨rfl, zFr_trans (zFr_st u1557 (Or.inl (by simp))) (zFr_st u1560 (Or.inr (by simp))), zRc_c hR u1560.1 ((u1560.2.1 180 _ (fun q => absurd q.1 (by decide))).trans (by rw [← hx]; exact u1557.1)) (fun i hi => (u1560.2.1 180 i (fun q => absurd q.1 (by decide))).trans (u1557.2.1 180 i (fun q => hi q.2))) hc⟩
theorem zlt_lsm : ∀ k, k < 8 → zlt (zls [98, 108, 107, 102, 114, 99, 110, 112] k) = k := by decide
theorem zlt_lsm2 {c : Nat} (h : zlt c < 8) : zls [98, 108, 107, 102, 114, 99, 110, 112] (zlt c) = c := by
  unfold zlt at h ⊢
  repeat' split
  all_goals first | (subst_vars; rfl) | (exfalso; simp_all)
theorem zm_askD {b ln : Nat} {t : Nat → Nat} {D : Nat} (ih : zIHr b ln t D) (hb40 : b ≤ 40) {ph : pm_H} {a ns : Nat} {cs : List Nat} (hS : zSh ph) (hp : zRp b ln t ph a ns cs) (hns : ns ≤ 4) (hl : cs.length ≤ a) : zMD (D + 1) 213 [.ref 170] ph (zRq b ln t 3 a ns cs ph) := by
  obtain ⟨Q, hQ⟩ : ∃ Q : Option Value → pm_H → Prop, Q = (zRq b ln t 3 a ns cs ph) := ⟨_, rfl⟩
  rw [← hQ]
  refine zMD_mk fun n => ?_
  show zW n D 213 Q 0 [some (.ref 170), none] [] ph
  have c_0 : ((Int16.ofInt 1000).toInt32).toInt = 1000 := by decide
  have c_1 : ((Int16.ofInt 3000).toInt32).toInt = 3000 := by decide
  have c_2 : ((Int8.ofInt 40).toInt32).toInt = 40 := by decide
  have c_3 : ((Int8.ofInt 41).toInt32).toInt = 41 := by decide
  have c_4 : ((Int8.ofInt 45).toInt32).toInt = 45 := by decide
  have c_5 : (Int32.ofInt 0).toInt = 0 := by decide
  have c_6 : (Int32.ofInt 1).toInt = 1 := by decide
  have c_7 : (Int32.ofInt 3).toInt = 3 := by decide
  have c_8 : (Int32.ofInt 4).toInt = 4 := by decide
  obtain ⟨hT, h17, hR⟩ := hp
  have hab := hT.2.2.1
  have tns := znt (k := ns) (by omega)
  refine w_load (pc' := 1) (v := .ref 170) (m := 1) (ykc_213 (e := (2, .aload_n kF0, 0)) rfl) rfl rfl ?_
  refine w_push (pc' := 3) (v := .int ((Int8.ofInt 45).toInt32)) (m := 2) (ykc_213 (e := (1, .bipush 45, 0)) rfl) rfl rfl ?_
  refine w_cv (as := [.ref 170, .int ((Int8.ofInt 45).toInt32)]) (r := []) (ykc_213 (e := (6, .invokevirtual 209, 0)) rfl) rfl rfl rfl rfl (zm_takes hS hT (c := 45) (by omega)) (fun v1562 ph1563 hv => ?_)
  rcases hv with ⟨f1, ⟨hm1, rfl, hTa⟩ | ⟨hm1, rfl, hTa⟩⟩
  · show zW n D 213 Q 6 [some (.ref 170), none] [.int (zI true)] ph1563
    refine w_beq (ykc_213 (e := (4, .ifCond .eq 17, 23)) rfl) rfl (fun q => absurd q (by decide)) (fun b1564 => ?_)
    refine w_load (pc' := 10) (v := .ref 170) (m := 1) (ykc_213 (e := (2, .aload_n kF0, 0)) rfl) rfl rfl ?_
    have h17a := (f1.1 170 17 (by decide) (by decide)).trans h17
    have hRa := zRc_F f1 (by simp) (by simp) hR
    refine w_cvD (as := [.ref 170]) (r := []) (ykc_213 (e := (6, .invokevirtual 230, 0)) rfl) rfl rfl rfl rfl (ih.1 _ (a + 1) ns cs (zSh_F f1 (by decide +kernel) hS) ⟨hTa, h17a, hRa⟩ hns (by omega)) (fun v1565 ph1566 hv => ?_)
    rcases hv with ⟨f2, f9, ok, a2, cs2, hz, rfl, hT2, hR2, h172, ha2, hl2⟩
    · have hb2 := hT2.2.2.1
      show zW n D 213 Q 13 [some (.ref 170), none] [.int (zI ok)] ph1566
      refine w_store (pc' := 14) (L' := [some (.ref 170), some (.int (zI ok))]) (st' := []) (m := 1) (ykc_213 (e := (3, .istore_n kF1, 0)) rfl) rfl rfl ?_
      refine w_load (pc' := 15) (v := .ref 170) (m := 1) (ykc_213 (e := (2, .aload_n kF0, 0)) rfl) rfl rfl ?_
      refine w_push (pc' := 18) (v := .int ((Int16.ofInt 3000).toInt32)) (m := 3) (ykc_213 (e := (1, .sipush 3000, 0)) rfl) rfl rfl ?_
      refine w_cv (as := [.ref 170, .int ((Int16.ofInt 3000).toInt32)]) (r := []) (ykc_213 (e := (6, .invokevirtual 233, 0)) rfl) rfl rfl rfl rfl (zm_codes (c := 3000) (zSh_F ((show zRF ph ph1566 from (zFr_trans (zFr_mono f1 (by simp) (by simp)) (zFr_mono f2 (by simp) (by simp))))) (by decide +kernel) hS) hR2 (by decide) (by decide) (by omega)) (fun v1567 ph1568 hv => ?_)
      obtain ⟨rfl, fc, hR3⟩ := hv
      show zW n D 213 Q 21 [some (.ref 170), some (.int (zI ok))] [] ph1568
      refine w_load (pc' := 22) (v := .int (zI ok)) (m := 1) (ykc_213 (e := (2, .iload_n kF1, 0)) rfl) rfl rfl ?_
      refine w_ret (v := (some (.int (zI ok)))) (ykc_213 (e := (7, .ireturn, 0)) rfl) zr_z ?_
      rw [hQ]
      refine ⟨(show zRF ph ph1568 from (zFr_trans (zFr_trans (zFr_mono f1 (by simp) (by simp)) (zFr_mono f2 (by simp) (by simp))) (zFr_mono fc (by simp) (by simp)))), f9 + 1, ok, a2, 3000 :: cs2, ?_, rfl, zTm_F fc (by simp) (by simp) (by simp) hT2, hR3, fun h => (fc.1 170 17 (by decide) (by decide)).trans (h172 h), by omega, by show cs2.length + 1 + a ≤ cs.length + a2; omega⟩
      show (if 3 = 3 then _ else _) = _
      rw [if_pos rfl, if_pos hm1, hz]
      rfl
    
  · show zW n D 213 Q 6 [some (.ref 170), none] [.int (zI false)] ph1563
    refine w_beq (ykc_213 (e := (4, .ifCond .eq 17, 23)) rfl) rfl (fun b1569 => ?_) (fun q => absurd q (by decide))
    refine w_load (pc' := 24) (v := .ref 170) (m := 1) (ykc_213 (e := (2, .aload_n kF0, 0)) rfl) rfl rfl ?_
    refine w_cv (as := [.ref 170]) (r := []) (ykc_213 (e := (6, .invokevirtual 171, 0)) rfl) rfl rfl rfl rfl (zm_isDigit (zSh_F f1 (by decide +kernel) hS) hTa) (fun v1570 ph1571 hv => ?_)
    obtain ⟨rfl, rfl⟩ := hv
    have hRa := zRc_F f1 (by simp) (by simp) hR
    have h17a := (f1.1 170 17 (by decide) (by decide)).trans h17
    show zW n D 213 Q 27 [some (.ref 170), none] [.int (zI (decide (a < b ∧ 48 ≤ t a ∧ t a ≤ 57)))] ph1563
    refine w_beq (ykc_213 (e := (4, .ifCond .eq 14, 41)) rfl) rfl (fun b1572 => ?_) (fun b1572 => ?_)
    · refine w_load (pc' := 42) (v := .ref 170) (m := 1) (ykc_213 (e := (2, .aload_n kF0, 0)) rfl) rfl rfl ?_
      refine w_push (pc' := 44) (v := .ref 1048628) (m := 2) (ykc_213 (e := (1, .ldc 237, 0)) rfl) rfl rfl ?_
      have hndg := of_decide_eq_false b1572
      have hnd2 : ¬ (a < b ∧ zdi (t a) = true) := fun q => hndg ⟨q.1, of_decide_eq_true q.2⟩
      refine w_cv (as := [.ref 170, .ref 1048628]) (r := []) (ykc_213 (e := (6, .invokevirtual 184, 0)) rfl) rfl rfl rfl rfl (zm_takesOf (zSh_F f1 (by decide +kernel) hS) hTa zstr_lets) (fun v1573 ph1574 hv => ?_)
      rcases hv with ⟨f2, ⟨k9, hk9, ha9, hc9, rfl, hT2⟩ | ⟨hn9, rfl, hT2⟩⟩
      · have e8 : zlt (t a) = k9 := by rw [hc9]; exact zlt_lsm k9 hk9
        have tk9 := znt (k := k9) (by omega)
        show zW n D 213 Q 47 [some (.ref 170), none] [.int (zn k9)] ph1574
        refine w_store (pc' := 48) (L' := [some (.ref 170), some (.int (zn k9))]) (st' := []) (m := 1) (ykc_213 (e := (3, .istore_n kF1, 0)) rfl) rfl rfl ?_
        refine w_load (pc' := 49) (v := .int (zn k9)) (m := 1) (ykc_213 (e := (2, .iload_n kF1, 0)) rfl) rfl rfl ?_
        refine w_zlt (ykc_213 (e := (4, .ifCond .lt 14, 63)) rfl) rfl (fun q => by exfalso; omega) (fun b1575 => ?_)
        refine w_load (pc' := 53) (v := .ref 170) (m := 1) (ykc_213 (e := (2, .aload_n kF0, 0)) rfl) rfl rfl ?_
        refine w_push (pc' := 56) (v := .int ((Int16.ofInt 1000).toInt32)) (m := 3) (ykc_213 (e := (1, .sipush 1000, 0)) rfl) rfl rfl ?_
        refine w_load (pc' := 57) (v := .int (zn k9)) (m := 1) (ykc_213 (e := (2, .iload_n kF1, 0)) rfl) rfl rfl ?_
        have e1576 : ((Int16.ofInt 1000).toInt32) + (zn k9) = zn (1000 + k9) := (zaddN (a := 1000) (b := k9) c_0 (znt (by omega)) (by omega)) 
        have te1576 := znt (k := 1000 + k9) (by omega)
        refine w_alu (pc' := 58) (st' := [.int (zn (1000 + k9)), .ref 170]) (ykc_213 (e := (0, .iadd, 0)) rfl) (by rw [← e1576]; rfl) rfl ?_
        refine w_cv (as := [.ref 170, .int (zn (1000 + k9))]) (r := []) (ykc_213 (e := (6, .invokevirtual 233, 0)) rfl) rfl rfl rfl rfl (zm_codes (c := 1000 + k9) (zSh_F ((show zRF ph ph1574 from (zFr_trans (zFr_mono f1 (by simp) (by simp)) (zFr_mono f2 (by simp) (by simp))))) (by decide +kernel) hS) (zRc_F f2 (by simp) (by simp) hRa) rfl (by omega) (by omega)) (fun v1577 ph1578 hv => ?_)
        obtain ⟨rfl, fc, hR3⟩ := hv
        show zW n D 213 Q 61 [some (.ref 170), some (.int (zn k9))] [] ph1578
        refine w_alu (pc' := 62) (st' := [.int (Int32.ofInt 1)]) (ykc_213 (e := (0, .iconst 1, 0)) rfl) rfl rfl ?_
        refine w_ret (v := (some (.int (Int32.ofInt 1)))) (ykc_213 (e := (7, .ireturn, 0)) rfl) zr_z ?_
        rw [hQ, zi1]
        refine ⟨(show zRF ph ph1578 from (zFr_trans (zFr_trans (zFr_mono f1 (by simp) (by simp)) (zFr_mono f2 (by simp) (by simp))) (zFr_mono fc (by simp) (by simp)))), 1, true, a + 1, (1000 + k9) :: cs, ?_, rfl, zTm_F fc (by simp) (by simp) (by simp) hT2, hR3, fun _ => (fc.1 170 17 (by decide) (by decide)).trans ((f2.1 170 17 (by decide) (by decide)).trans h17a), by omega, by show cs.length + 1 + a ≤ _; omega⟩
        show (if 3 = 3 then _ else _) = _
        rw [if_pos rfl, if_neg hm1, if_neg hnd2, if_pos ⟨ha9, by omega⟩, e8]
      · have tm1 : (Int32.ofInt (-1)).toInt = -1 := by decide
        have hnl : ¬ (a < b ∧ zlt (t a) < 8) := fun q => hn9 q.1 (zlt (t a)) q.2 (zlt_lsm2 q.2).symm
        show zW n D 213 Q 47 [some (.ref 170), none] [.int (Int32.ofInt (-1))] ph1574
        refine w_store (pc' := 48) (L' := [some (.ref 170), some (.int (Int32.ofInt (-1)))]) (st' := []) (m := 1) (ykc_213 (e := (3, .istore_n kF1, 0)) rfl) rfl rfl ?_
        refine w_load (pc' := 49) (v := .int (Int32.ofInt (-1))) (m := 1) (ykc_213 (e := (2, .iload_n kF1, 0)) rfl) rfl rfl ?_
        refine w_zlt (ykc_213 (e := (4, .ifCond .lt 14, 63)) rfl) rfl (fun b1579 => ?_) (fun q => by exfalso; omega)
        refine w_load (pc' := 64) (v := .ref 170) (m := 1) (ykc_213 (e := (2, .aload_n kF0, 0)) rfl) rfl rfl ?_
        refine w_gf (pc' := 67) (v := .int (zn ns)) (ykc_213 (e := (5, .getfield 142, 0)) rfl) rfl ((f2.1 170 17 (by decide) (by decide)).trans h17a) rfl ?_
        refine w_alu (pc' := 68) (st' := [.int (Int32.ofInt 4), .int (zn ns)]) (ykc_213 (e := (0, .iconst 4, 0)) rfl) rfl rfl ?_
        refine w_ieq (ykc_213 (e := (4, .if_icmp .eq 12, 80)) rfl) rfl (fun b1580 => ?_) (fun b1580 => ?_)
        · refine w_alu (pc' := 81) (st' := [.int (Int32.ofInt 0)]) (ykc_213 (e := (0, .iconst 0, 0)) rfl) rfl rfl ?_
          refine w_ret (v := (some (.int (Int32.ofInt 0)))) (ykc_213 (e := (7, .ireturn, 0)) rfl) zr_z ?_
          rw [hQ, zi0]
          refine ⟨(show zRF ph ph1574 from (zFr_trans (zFr_mono f1 (by simp) (by simp)) (zFr_mono f2 (by simp) (by simp)))), 1, false, a, cs, ?_, rfl, hT2, zRc_F f2 (by simp) (by simp) hRa, fun h => absurd h (by decide), Nat.le_refl _, Nat.le_refl _⟩
          show (if 3 = 3 then _ else _) = _
          rw [if_pos rfl, if_neg hm1, if_neg hnd2, if_neg hnl, if_neg (by omega)]
        · refine w_load (pc' := 72) (v := .ref 170) (m := 1) (ykc_213 (e := (2, .aload_n kF0, 0)) rfl) rfl rfl ?_
          refine w_push (pc' := 74) (v := .int ((Int8.ofInt 40).toInt32)) (m := 2) (ykc_213 (e := (1, .bipush 40, 0)) rfl) rfl rfl ?_
          refine w_cv (as := [.ref 170, .int ((Int8.ofInt 40).toInt32)]) (r := []) (ykc_213 (e := (6, .invokevirtual 209, 0)) rfl) rfl rfl rfl rfl (zm_takes (zSh_F ((show zRF ph ph1574 from (zFr_trans (zFr_mono f1 (by simp) (by simp)) (zFr_mono f2 (by simp) (by simp))))) (by decide +kernel) hS) hT2 (c := 40) (by omega)) (fun v1581 ph1582 hv => ?_)
          rcases hv with ⟨f3, ⟨hb1, rfl, hT3⟩ | ⟨hb1, rfl, hT3⟩⟩
          · show zW n D 213 Q 77 [some (.ref 170), some (.int (Int32.ofInt (-1)))] [.int (zI true)] ph1582
            refine w_bne (ykc_213 (e := (4, .ifCond .ne 5, 82)) rfl) rfl (fun b1583 => ?_) (fun q => absurd q (by decide))
            refine w_load (pc' := 83) (v := .ref 170) (m := 1) (ykc_213 (e := (2, .aload_n kF0, 0)) rfl) rfl rfl ?_
            refine w_alu (pc' := 84) (st' := [.ref 170, .ref 170]) (ykc_213 (e := (0, .dup, 0)) rfl) rfl rfl ?_
            refine w_gf (pc' := 87) (v := .int (zn ns)) (ykc_213 (e := (5, .getfield 142, 0)) rfl) rfl ((f3.1 170 17 (by decide) (by decide)).trans ((f2.1 170 17 (by decide) (by decide)).trans h17a)) rfl ?_
            refine w_alu (pc' := 88) (st' := [.int (Int32.ofInt 1), .int (zn ns), .ref 170]) (ykc_213 (e := (0, .iconst 1, 0)) rfl) rfl rfl ?_
            have e1584 : (zn ns) + (Int32.ofInt 1) = zn (ns + 1) := (zaddN (a := ns) (b := 1) (znt (by omega)) c_6 (by omega)) 
            have te1584 := znt (k := ns + 1) (by omega)
            refine w_alu (pc' := 89) (st' := [.int (zn (ns + 1)), .ref 170]) (ykc_213 (e := (0, .iadd, 0)) rfl) (by rw [← e1584]; rfl) rfl ?_
            refine w_pf (pc' := 92) (ykc_213 (e := (5, .putfield 142, 0)) rfl) rfl rfl (fun ph1586 u1585 => ?_)
            refine w_load (pc' := 93) (v := .ref 170) (m := 1) (ykc_213 (e := (2, .aload_n kF0, 0)) rfl) rfl rfl ?_
            refine w_alu (pc' := 94) (st' := [.int (Int32.ofInt 0), .ref 170]) (ykc_213 (e := (0, .iconst 0, 0)) rfl) rfl rfl ?_
            have fu : zFr [] [(170, 17)] _ ph1586 := zFr_st u1585 (Or.inr (by simp))
            have hT4 := zTm_F fu (by simp) (by simp) (by simp) hT3
            have hR4 := zRc_F fu (by simp) (by simp) (zRc_F f3 (by simp) (by simp) (zRc_F f2 (by simp) (by simp) hRa))
            refine w_cvD (as := [.ref 170, .int (Int32.ofInt 0)]) (r := []) (ykc_213 (e := (6, .invokevirtual 239, 0)) rfl) rfl rfl rfl rfl (ih.2 _ 0 _ (a + 1) (ns + 1) cs (zSh_F ((show zRF ph ph1586 from (zFr_trans (zFr_trans (zFr_trans (zFr_mono f1 (by simp) (by simp)) (zFr_mono f2 (by simp) (by simp))) (zFr_mono f3 (by simp) (by simp))) (zFr_st u1585 (Or.inr (by simp)))))) (by decide +kernel) hS) (by omega) (by decide) ⟨hT4, u1585.1, hR4⟩ (by omega) (by omega)) (fun v1587 ph1588 hv => ?_)
            rcases hv with ⟨f5, f9, ok, a2, cs2, hz, rfl, hT5, hR5, h175, ha2, hl2⟩
            · cases ok with
              | false =>
                show zW n D 213 Q 97 [some (.ref 170), some (.int (Int32.ofInt (-1)))] [.int (zI false)] ph1588
                refine w_beq (ykc_213 (e := (4, .ifCond .eq 12, 109)) rfl) rfl (fun b1589 => ?_) (fun q => absurd q (by decide))
                refine w_alu (pc' := 110) (st' := [.int (Int32.ofInt 0)]) (ykc_213 (e := (0, .iconst 0, 0)) rfl) rfl rfl ?_
                refine w_ret (v := (some (.int (Int32.ofInt 0)))) (ykc_213 (e := (7, .ireturn, 0)) rfl) zr_z ?_
                rw [hQ, zi0]
                refine ⟨(show zRF ph ph1588 from (zFr_trans (zFr_trans (zFr_trans (zFr_trans (zFr_mono f1 (by simp) (by simp)) (zFr_mono f2 (by simp) (by simp))) (zFr_mono f3 (by simp) (by simp))) (zFr_st u1585 (Or.inr (by simp)))) (zFr_mono f5 (by simp) (by simp)))), f9 + 1, false, a2, cs2, ?_, rfl, hT5, hR5, fun h => absurd h (by decide), by omega, by omega⟩
                show (if 3 = 3 then _ else _) = _
                rw [if_pos rfl, if_neg hm1, if_neg hnd2, if_neg hnl, if_pos ⟨by omega, hb1⟩, hz]
                show some (if false = true ∧ a2 < b ∧ t a2 = 41 then _ else _) = _
                rw [if_neg (fun q => absurd q.1 (by decide))]
              | true =>
                show zW n D 213 Q 97 [some (.ref 170), some (.int (Int32.ofInt (-1)))] [.int (zI true)] ph1588
                refine w_beq (ykc_213 (e := (4, .ifCond .eq 12, 109)) rfl) rfl (fun q => absurd q (by decide)) (fun b1590 => ?_)
                refine w_load (pc' := 101) (v := .ref 170) (m := 1) (ykc_213 (e := (2, .aload_n kF0, 0)) rfl) rfl rfl ?_
                refine w_push (pc' := 103) (v := .int ((Int8.ofInt 41).toInt32)) (m := 2) (ykc_213 (e := (1, .bipush 41, 0)) rfl) rfl rfl ?_
                have h175 := h175 rfl
                refine w_cv (as := [.ref 170, .int ((Int8.ofInt 41).toInt32)]) (r := []) (ykc_213 (e := (6, .invokevirtual 209, 0)) rfl) rfl rfl rfl rfl (zm_takes (zSh_F ((show zRF ph ph1588 from (zFr_trans (zFr_trans (zFr_trans (zFr_trans (zFr_mono f1 (by simp) (by simp)) (zFr_mono f2 (by simp) (by simp))) (zFr_mono f3 (by simp) (by simp))) (zFr_st u1585 (Or.inr (by simp)))) (zFr_mono f5 (by simp) (by simp))))) (by decide +kernel) hS) hT5 (c := 41) (by omega)) (fun v1591 ph1592 hv => ?_)
                rcases hv with ⟨f6, ⟨hb2, rfl, hT6⟩ | ⟨hb2, rfl, hT6⟩⟩
                · have tn1 := znt (k := ns + 1) (by omega)
                  show zW n D 213 Q 106 [some (.ref 170), some (.int (Int32.ofInt (-1)))] [.int (zI true)] ph1592
                  refine w_bne (ykc_213 (e := (4, .ifCond .ne 5, 111)) rfl) rfl (fun b1593 => ?_) (fun q => absurd q (by decide))
                  refine w_load (pc' := 112) (v := .ref 170) (m := 1) (ykc_213 (e := (2, .aload_n kF0, 0)) rfl) rfl rfl ?_
                  refine w_alu (pc' := 113) (st' := [.ref 170, .ref 170]) (ykc_213 (e := (0, .dup, 0)) rfl) rfl rfl ?_
                  refine w_gf (pc' := 116) (v := .int (zn (ns + 1))) (ykc_213 (e := (5, .getfield 142, 0)) rfl) rfl ((f6.1 170 17 (by decide) (by decide)).trans h175) rfl ?_
                  refine w_alu (pc' := 117) (st' := [.int (Int32.ofInt 1), .int (zn (ns + 1)), .ref 170]) (ykc_213 (e := (0, .iconst 1, 0)) rfl) rfl rfl ?_
                  have e1594 : (zn (ns + 1)) - (Int32.ofInt 1) = zn (ns) := zsubN (a := ns + 1) (b := 1) tn1 c_6 (by omega)
                  have te1594 := znt (k := ns) (by omega)
                  refine w_alu (pc' := 118) (st' := [.int (zn (ns)), .ref 170]) (ykc_213 (e := (0, .isub, 0)) rfl) (by show some ([.int ((zn (ns + 1)) - (Int32.ofInt 1)), .ref 170] : List Value) = _; rw [e1594]) rfl ?_
                  refine w_pf (pc' := 121) (ykc_213 (e := (5, .putfield 142, 0)) rfl) rfl rfl (fun ph1596 u1595 => ?_)
                  refine w_alu (pc' := 122) (st' := [.int (Int32.ofInt 1)]) (ykc_213 (e := (0, .iconst 1, 0)) rfl) rfl rfl ?_
                  refine w_ret (v := (some (.int (Int32.ofInt 1)))) (ykc_213 (e := (7, .ireturn, 0)) rfl) zr_z ?_
                  rw [hQ, zi1]
                  have fv : zFr [] [(170, 17)] _ ph1596 := zFr_st u1595 (Or.inr (by simp))
                  refine ⟨(show zRF ph ph1596 from (zFr_trans (zFr_trans (zFr_trans (zFr_trans (zFr_trans (zFr_trans (zFr_mono f1 (by simp) (by simp)) (zFr_mono f2 (by simp) (by simp))) (zFr_mono f3 (by simp) (by simp))) (zFr_st u1585 (Or.inr (by simp)))) (zFr_mono f5 (by simp) (by simp))) (zFr_mono f6 (by simp) (by simp))) (zFr_st u1595 (Or.inr (by simp))))), f9 + 1, true, a2 + 1, cs2, ?_, rfl, zTm_F fv (by simp) (by simp) (by simp) hT6, zRc_F fv (by simp) (by simp) (zRc_F f6 (by simp) (by simp) hR5), fun _ => u1595.1, by omega, by omega⟩
                  show (if 3 = 3 then _ else _) = _
                  rw [if_pos rfl, if_neg hm1, if_neg hnd2, if_neg hnl, if_pos ⟨by omega, hb1⟩, hz]
                  show some (if true = true ∧ a2 < b ∧ t a2 = 41 then _ else _) = _
                  rw [if_pos ⟨rfl, hb2⟩]
                · show zW n D 213 Q 106 [some (.ref 170), some (.int (Int32.ofInt (-1)))] [.int (zI false)] ph1592
                  refine w_bne (ykc_213 (e := (4, .ifCond .ne 5, 111)) rfl) rfl (fun q => absurd q (by decide)) (fun b1597 => ?_)
                  refine w_alu (pc' := 110) (st' := [.int (Int32.ofInt 0)]) (ykc_213 (e := (0, .iconst 0, 0)) rfl) rfl rfl ?_
                  refine w_ret (v := (some (.int (Int32.ofInt 0)))) (ykc_213 (e := (7, .ireturn, 0)) rfl) zr_z ?_
                  rw [hQ, zi0]
                  refine ⟨(show zRF ph ph1592 from (zFr_trans (zFr_trans (zFr_trans (zFr_trans (zFr_trans (zFr_mono f1 (by simp) (by simp)) (zFr_mono f2 (by simp) (by simp))) (zFr_mono f3 (by simp) (by simp))) (zFr_st u1585 (Or.inr (by simp)))) (zFr_mono f5 (by simp) (by simp))) (zFr_mono f6 (by simp) (by simp)))), f9 + 1, false, a2, cs2, ?_, rfl, hT6, zRc_F f6 (by simp) (by simp) hR5, fun h => absurd h (by decide), by omega, by omega⟩
                  show (if 3 = 3 then _ else _) = _
                  rw [if_pos rfl, if_neg hm1, if_neg hnd2, if_neg hnl, if_pos ⟨by omega, hb1⟩, hz]
                  show some (if true = true ∧ a2 < b ∧ t a2 = 41 then _ else _) = _
                  rw [if_neg (fun q => hb2 q.2)]
                
            
          · show zW n D 213 Q 77 [some (.ref 170), some (.int (Int32.ofInt (-1)))] [.int (zI false)] ph1582
            refine w_bne (ykc_213 (e := (4, .ifCond .ne 5, 82)) rfl) rfl (fun q => absurd q (by decide)) (fun b1598 => ?_)
            refine w_alu (pc' := 81) (st' := [.int (Int32.ofInt 0)]) (ykc_213 (e := (0, .iconst 0, 0)) rfl) rfl rfl ?_
            refine w_ret (v := (some (.int (Int32.ofInt 0)))) (ykc_213 (e := (7, .ireturn, 0)) rfl) zr_z ?_
            rw [hQ, zi0]
            refine ⟨(show zRF ph ph1582 from (zFr_trans (zFr_trans (zFr_mono f1 (by simp) (by simp)) (zFr_mono f2 (by simp) (by simp))) (zFr_mono f3 (by simp) (by simp)))), 1, false, a, cs, ?_, rfl, hT3, zRc_F f3 (by simp) (by simp) (zRc_F f2 (by simp) (by simp) hRa), fun h => absurd h (by decide), Nat.le_refl _, Nat.le_refl _⟩
            show (if 3 = 3 then _ else _) = _
            rw [if_pos rfl, if_neg hm1, if_neg hnd2, if_neg hnl, if_neg (fun q => hb1 ⟨q.2.1, q.2.2⟩)]
          
      
    · refine w_load (pc' := 31) (v := .ref 170) (m := 1) (ykc_213 (e := (2, .aload_n kF0, 0)) rfl) rfl rfl ?_
      refine w_load (pc' := 32) (v := .ref 170) (m := 1) (ykc_213 (e := (2, .aload_n kF0, 0)) rfl) rfl rfl ?_
      refine w_alu (pc' := 33) (st' := [.int (Int32.ofInt 3), .ref 170, .ref 170]) (ykc_213 (e := (0, .iconst 3, 0)) rfl) rfl rfl ?_
      have hdd := of_decide_eq_true b1572
      refine w_cv (as := [.ref 170, .int (Int32.ofInt 3)]) (r := [.ref 170]) (ykc_213 (e := (6, .invokevirtual 224, 0)) rfl) rfl rfl rfl rfl (zm_num3 (zSh_F f1 (by decide +kernel) hS) hTa hdd.1 (decide_eq_true hdd.2)) (fun v1599 ph1600 hv => ?_)
      obtain ⟨f2, rfl, hT2, hlt9, hz1⟩ := hv
      show zW n D 213 Q 36 [some (.ref 170), none] [.int (zn (znv t a (zdc b t a))), .ref 170] ph1600
      refine w_cv (as := [.ref 170, .int (zn (znv t a (zdc b t a)))]) (r := []) (ykc_213 (e := (6, .invokevirtual 233, 0)) rfl) rfl rfl rfl rfl (zm_codes (c := znv t a (zdc b t a)) (zSh_F ((show zRF ph ph1600 from (zFr_trans (zFr_mono f1 (by simp) (by simp)) (zFr_mono f2 (by simp) (by simp))))) (by decide +kernel) hS) (zRc_F f2 (by simp) (by simp) hRa) rfl (by omega) (by omega)) (fun v1601 ph1602 hv => ?_)
      obtain ⟨rfl, fc, hR3⟩ := hv
      show zW n D 213 Q 39 [some (.ref 170), none] [] ph1602
      refine w_alu (pc' := 40) (st' := [.int (Int32.ofInt 1)]) (ykc_213 (e := (0, .iconst 1, 0)) rfl) rfl rfl ?_
      refine w_ret (v := (some (.int (Int32.ofInt 1)))) (ykc_213 (e := (7, .ireturn, 0)) rfl) zr_z ?_
      rw [hQ, zi1]
      refine ⟨(show zRF ph ph1602 from (zFr_trans (zFr_trans (zFr_mono f1 (by simp) (by simp)) (zFr_mono f2 (by simp) (by simp))) (zFr_mono fc (by simp) (by simp)))), 1, true, a + zdc b t a, znv t a (zdc b t a) :: cs, ?_, rfl, zTm_F fc (by simp) (by simp) (by simp) hT2, hR3, fun _ => (fc.1 170 17 (by decide) (by decide)).trans ((f2.1 170 17 (by decide) (by decide)).trans h17a), by omega, by show cs.length + 1 + a ≤ _; omega⟩
      show (if 3 = 3 then _ else _) = _
      rw [if_pos rfl, if_neg hm1, if_pos ⟨hdd.1, decide_eq_true hdd.2⟩]
      
  
section ZDL
variable {b : Nat} {t : Nat → Nat}
theorem zde_rf {f r a ns : Nat} {cs : List Nat} {a1 : Nat} {cs1 : List Nat} (hr : r < 3) (h : zde b t f (r + 1) a ns cs = some (false, a1, cs1)) : zde b t (f + 1) r a ns cs = some (false, a1, cs1) := by
  unfold zde
  rw [if_neg (by omega), if_pos hr, h]
  rfl
theorem zde_rt {f g r a ns : Nat} {cs : List Nat} {a1 : Nat} {cs1 : List Nat} {x : Bool × Nat × List Nat} (hr : r < 3) (h : zde b t f (r + 1) a ns cs = some (true, a1, cs1)) (h2 : zde b t g (r + 4) a1 ns cs1 = some x) : ∃ f, zde b t f r a ns cs = some x := by
  refine ⟨f + g + 1, ?_⟩
  unfold zde
  rw [if_neg (by omega), if_pos hr, zde_m h (Nat.le_add_right f g)]
  show (if true = true then zde b t (f + g) (r + 4) a1 ns cs1 else some (true, a1, cs1)) = _
  rw [if_pos rfl]
  exact zde_m h2 (Nat.le_add_left g f)
theorem zde_l0 {r a ns : Nat} {cs : List Nat} (h : ¬ (a < b ∧ zrk2 r (t a) = true)) : zde b t 1 (r + 4) a ns cs = some (true, a, cs) := by
  unfold zde
  rw [if_neg (by omega), if_neg (by omega), show r + 4 - 4 = r by omega, if_neg h]
theorem zde_lf {f r a ns : Nat} {cs : List Nat} {a1 : Nat} {cs1 : List Nat} (h0 : a < b ∧ zrk2 r (t a) = true) (h : zde b t f (r + 1) (a + 1) ns cs = some (false, a1, cs1)) : zde b t (f + 1) (r + 4) a ns cs = some (false, a1, cs1) := by
  unfold zde
  rw [if_neg (by omega), if_neg (by omega), show r + 4 - 4 = r by omega, if_pos h0, show r + 4 - 3 = r + 1 by omega, h]
  rfl
theorem zde_l1 {f a ns : Nat} {cs : List Nat} {a1 : Nat} {cs1 : List Nat} (h0 : a < b ∧ zrk2 0 (t a) = true) (h : zde b t f 1 (a + 1) ns cs = some (true, a1, cs1)) : zde b t (f + 1) 4 a ns cs = some (true, a1, zop (t a) :: cs1) := by
  unfold zde
  rw [if_neg (by decide), if_neg (by decide), show 4 - 4 = 0 from rfl, if_pos h0, show 4 - 3 = 1 from rfl, h]
  rfl
theorem zde_lt {f g r a ns : Nat} {cs : List Nat} {a1 : Nat} {cs1 : List Nat} {x : Bool × Nat × List Nat} (hr : 0 < r) (h0 : a < b ∧ zrk2 r (t a) = true) (h : zde b t f (r + 1) (a + 1) ns cs = some (true, a1, cs1)) (h2 : zde b t g (r + 4) a1 ns (zop (t a) :: cs1) = some x) : ∃ f, zde b t f (r + 4) a ns cs = some x := by
  refine ⟨f + g + 1, ?_⟩
  unfold zde
  rw [if_neg (by omega), if_neg (by omega), show r + 4 - 4 = r by omega, if_pos h0, show r + 4 - 3 = r + 1 by omega, zde_m h (Nat.le_add_right f g)]
  show (if true = true then (if r + 4 = 4 then some (true, a1, zop (t a) :: cs1) else zde b t (f + g) (r + 4) a1 ns (zop (t a) :: cs1)) else some (true, a1, cs1)) = _
  rw [if_pos rfl, if_neg (by omega)]
  exact zde_m h2 (Nat.le_add_left g f)
end ZDL
theorem zm_rankD3 {b ln : Nat} {t : Nat → Nat} {D : Nat} (ih : zIHr b ln t D) (hb40 : b ≤ 40) {ph : pm_H} {a ns : Nat} {cs : List Nat} (hS : zSh ph) (hp : zRp b ln t ph a ns cs) (hns : ns ≤ 4) (hl : cs.length ≤ a) {x : Int32} (hx : x.toInt = ((3 : Nat) : Int)) : zMD (D + 1) 214 [.ref 170, .int x] ph (zRq b ln t 3 a ns cs ph) := by
  obtain ⟨Q, hQ⟩ : ∃ Q : Option Value → pm_H → Prop, Q = (zRq b ln t 3 a ns cs ph) := ⟨_, rfl⟩
  rw [← hQ]
  refine zMD_mk fun n => ?_
  show zW n D 214 Q 0 [some (.ref 170), some (.int x), none, none] [] ph
  have c_0 : ((Int16.ofInt 2000).toInt32).toInt = 2000 := by decide
  have c_1 : (Int32.ofInt 0).toInt = 0 := by decide
  have c_2 : (Int32.ofInt 1).toInt = 1 := by decide
  have c_3 : (Int32.ofInt 3).toInt = 3 := by decide
  have c_4 : (Int32.ofInt 5).toInt = 5 := by decide
  refine w_load (pc' := 1) (v := .int x) (m := 1) (ykc_214 (e := (2, .iload_n kF1, 0)) rfl) rfl rfl ?_
  refine w_alu (pc' := 2) (st' := [.int (Int32.ofInt 3), .int x]) (ykc_214 (e := (0, .iconst 3, 0)) rfl) rfl rfl ?_
  refine w_ine (ykc_214 (e := (4, .if_icmp .ne 8, 10)) rfl) rfl (fun q => by exfalso; omega) (fun b1603 => ?_)
  refine w_load (pc' := 6) (v := .ref 170) (m := 1) (ykc_214 (e := (2, .aload_n kF0, 0)) rfl) rfl rfl ?_
  refine w_cvD (as := [.ref 170]) (r := []) (ykc_214 (e := (6, .invokevirtual 230, 0)) rfl) rfl rfl rfl rfl (ih.1 ph a ns cs hS hp hns hl) (fun v1604 ph1605 hv => ?_)
  rcases hv with ⟨f2, f9, ok, a2, cs2, hz, rfl, hT2, hR2, h172, ha2, hl2⟩
  · show zW n D 214 Q 9 [some (.ref 170), some (.int x), none, none] [.int (zI ok)] ph1605
    refine w_ret (v := (some (.int (zI ok)))) (ykc_214 (e := (7, .ireturn, 0)) rfl) zr_z ?_
    rw [hQ]
    exact ⟨f2, f9, ok, a2, cs2, hz, rfl, hT2, hR2, h172, ha2, hl2⟩
  
theorem zm_rankD2 {b ln : Nat} {t : Nat → Nat} {D : Nat} (ih : zIHr b ln t D) (hb40 : b ≤ 40) {ph : pm_H} {a ns : Nat} {cs : List Nat} (hS : zSh ph) (hp : zRp b ln t ph a ns cs) (hns : ns ≤ 4) (hl : cs.length ≤ a) {x : Int32} (hx : x.toInt = ((2 : Nat) : Int)) : zMD (D + 1) 214 [.ref 170, .int x] ph (zRq b ln t 2 a ns cs ph) := by
  obtain ⟨Q, hQ⟩ : ∃ Q : Option Value → pm_H → Prop, Q = (zRq b ln t 2 a ns cs ph) := ⟨_, rfl⟩
  rw [← hQ]
  refine zMD_mk fun n => ?_
  show zW n D 214 Q 0 [some (.ref 170), some (.int x), none, none] [] ph
  have c_0 : ((Int16.ofInt 2000).toInt32).toInt = 2000 := by decide
  have c_1 : (Int32.ofInt 0).toInt = 0 := by decide
  have c_2 : (Int32.ofInt 1).toInt = 1 := by decide
  have c_3 : (Int32.ofInt 3).toInt = 3 := by decide
  have c_4 : (Int32.ofInt 5).toInt = 5 := by decide
  have ihr := ih
  obtain ⟨hT, h17, hR⟩ := hp
  have hab := hT.2.2.1
  refine w_load (pc' := 1) (v := .int x) (m := 1) (ykc_214 (e := (2, .iload_n kF1, 0)) rfl) rfl rfl ?_
  refine w_alu (pc' := 2) (st' := [.int (Int32.ofInt 3), .int x]) (ykc_214 (e := (0, .iconst 3, 0)) rfl) rfl rfl ?_
  refine w_ine (ykc_214 (e := (4, .if_icmp .ne 8, 10)) rfl) rfl (fun b1606 => ?_) (fun q => by exfalso; omega)
  refine w_load (pc' := 11) (v := .ref 170) (m := 1) (ykc_214 (e := (2, .aload_n kF0, 0)) rfl) rfl rfl ?_
  refine w_load (pc' := 12) (v := .int x) (m := 1) (ykc_214 (e := (2, .iload_n kF1, 0)) rfl) rfl rfl ?_
  refine w_alu (pc' := 13) (st' := [.int (Int32.ofInt 1), .int x, .ref 170]) (ykc_214 (e := (0, .iconst 1, 0)) rfl) rfl rfl ?_
  have e1607 : x + (Int32.ofInt 1) = zn (3) := (zaddN (a := 2) (b := 1) (by omega) c_2 (by omega)) 
  have te1607 := znt (k := 3) (by omega)
  refine w_alu (pc' := 14) (st' := [.int (zn (3)), .ref 170]) (ykc_214 (e := (0, .iadd, 0)) rfl) (by rw [← e1607]; rfl) rfl ?_
  refine w_cvD (as := [.ref 170, .int (zn (3))]) (r := []) (ykc_214 (e := (6, .invokevirtual 239, 0)) rfl) rfl rfl rfl rfl (ihr.2 _ 3 _ a ns cs hS (by first | exact znt (by decide) | omega) (by decide) ⟨hT, h17, hR⟩ hns hl) (fun v1608 ph1609 hv => ?_)
  rcases hv with ⟨f1, g1, ok1, a1, cs1, hz1, rfl, hT1, hR1, h171, ha1, hl1⟩
  · cases ok1 with
    | false =>
      show zW n D 214 Q 17 [some (.ref 170), some (.int x), none, none] [.int (zI false)] ph1609
      refine w_bne (ykc_214 (e := (4, .ifCond .ne 5, 22)) rfl) rfl (fun q => absurd q (by decide)) (fun b1610 => ?_)
      refine w_alu (pc' := 21) (st' := [.int (Int32.ofInt 0)]) (ykc_214 (e := (0, .iconst 0, 0)) rfl) rfl rfl ?_
      refine w_ret (v := (some (.int (Int32.ofInt 0)))) (ykc_214 (e := (7, .ireturn, 0)) rfl) zr_z ?_
      rw [hQ, zi0]
      refine ⟨f1, g1 + 1, false, a1, cs1, zde_rf (by decide) hz1, rfl, hT1, hR1, fun h => absurd h (by decide), ha1, hl1⟩
    | true =>
      show zW n D 214 Q 17 [some (.ref 170), some (.int x), none, none] [.int (zI true)] ph1609
      refine w_bne (ykc_214 (e := (4, .ifCond .ne 5, 22)) rfl) rfl (fun b1611 => ?_) (fun q => absurd q (by decide))
      refine w_alu (pc' := 23) (st' := [.int (Int32.ofInt 1)]) (ykc_214 (e := (0, .iconst 1, 0)) rfl) rfl rfl ?_
      refine w_store (pc' := 24) (L' := [some (.ref 170), some (.int x), some (.int (Int32.ofInt 1)), none]) (st' := []) (m := 1) (ykc_214 (e := (3, .istore_n kF2, 0)) rfl) rfl rfl ?_
      have hl9 : ∀ (n : Nat), ∀ (p : pm_H) (a1 : Nat) (cs1 : List Nat) (o9 : Option Value), (zRF ph p) → (zTm p a1 b ln t) → (zc p 170 17 = some (.int (zn ns))) → (zRc p cs1) → (a ≤ a1) → (cs1.length + a ≤ cs.length + a1) → (∀ g y, zde b t g 6 a1 ns cs1 = some y → ∃ f, zde b t f 2 a ns cs = some y) → zW n D 214 Q 24 [some (.ref 170), some (.int x), some (.int (Int32.ofInt 1)), o9] [] p := by
        intro n
        induction n using Nat.strongRecOn with
        | ind n ih =>
          intro p a1 cs1 o9 f1 hT1 h171 hR1 ha1 hl1 hcon
          have hab1 := hT1.2.2.1
          refine w_load (pc' := 25) (v := .int (Int32.ofInt 1)) (m := 1) (ykc_214 (e := (2, .iload_n kF2, 0)) rfl) rfl rfl ?_
          refine w_zeq (ykc_214 (e := (4, .ifCond .eq 88, 113)) rfl) rfl (fun q => by exfalso; omega) (fun b1612 => ?_)
          refine w_load (pc' := 29) (v := .ref 170) (m := 1) (ykc_214 (e := (2, .aload_n kF0, 0)) rfl) rfl rfl ?_
          refine w_load (pc' := 30) (v := .int x) (m := 1) (ykc_214 (e := (2, .iload_n kF1, 0)) rfl) rfl rfl ?_
          refine w_zne (ykc_214 (e := (4, .ifCond .ne 8, 38)) rfl) rfl (fun b1613 => ?_) (fun q => by exfalso; omega)
          refine w_load (pc' := 39) (v := .int x) (m := 1) (ykc_214 (e := (2, .iload_n kF1, 0)) rfl) rfl rfl ?_
          refine w_alu (pc' := 40) (st' := [.int (Int32.ofInt 1), .int x, .ref 170]) (ykc_214 (e := (0, .iconst 1, 0)) rfl) rfl rfl ?_
          refine w_ine (ykc_214 (e := (4, .if_icmp .ne 8, 48)) rfl) rfl (fun b1614 => ?_) (fun q => by exfalso; omega)
          refine w_push (pc' := 50) (v := .ref 1048631) (m := 2) (ykc_214 (e := (1, .ldc 246, 0)) rfl) rfl rfl ?_
          refine w_cv (as := [.ref 170, .ref 1048631]) (r := []) (ykc_214 (e := (6, .invokevirtual 184, 0)) rfl) rfl rfl rfl rfl (zm_takesOf (zRF_S ((show zRF ph p from (zFr_mono f1 (by simp) (by simp)))) hS) hT1 zstr_mul) (fun v1615 ph1616 hv => ?_)
          rcases hv with ⟨f2, ⟨k9, hk9, ha9, hc9, rfl, hT2⟩ | ⟨hn9, rfl, hT2⟩⟩
          · have tk9 := znt (k := k9) (by omega)
            have e8 : zop (t a1) = 2005 + k9 := by rw [hc9]; exact (zrk_a.2.2 k9 hk9).2
            have e7 : zrk2 2 (t a1) = true := by rw [hc9]; exact (zrk_a.2.2 k9 hk9).1
            show zW n D 214 Q 53 [some (.ref 170), some (.int x), some (.int (Int32.ofInt 1)), o9] [.int (zn k9)] ph1616
            refine w_store (pc' := 54) (L' := [some (.ref 170), some (.int x), some (.int (Int32.ofInt 1)), some (.int (zn k9))]) (st' := []) (m := 1) (ykc_214 (e := (3, .istore_n kF3, 0)) rfl) rfl rfl ?_
            refine w_load (pc' := 55) (v := .int (zn k9)) (m := 1) (ykc_214 (e := (2, .iload_n kF3, 0)) rfl) rfl rfl ?_
            refine w_zge (ykc_214 (e := (4, .ifCond .ge 5, 60)) rfl) rfl (fun b1617 => ?_) (fun q => by exfalso; omega)
            refine w_load (pc' := 61) (v := .ref 170) (m := 1) (ykc_214 (e := (2, .aload_n kF0, 0)) rfl) rfl rfl ?_
            refine w_load (pc' := 62) (v := .int x) (m := 1) (ykc_214 (e := (2, .iload_n kF1, 0)) rfl) rfl rfl ?_
            refine w_alu (pc' := 63) (st' := [.int (Int32.ofInt 1), .int x, .ref 170]) (ykc_214 (e := (0, .iconst 1, 0)) rfl) rfl rfl ?_
            have e1618 : x + (Int32.ofInt 1) = zn (3) := (zaddN (a := 2) (b := 1) (by omega) c_2 (by omega)) 
            have te1618 := znt (k := 3) (by omega)
            refine w_alu (pc' := 64) (st' := [.int (zn (3)), .ref 170]) (ykc_214 (e := (0, .iadd, 0)) rfl) (by rw [← e1618]; rfl) rfl ?_
            refine w_cvD (as := [.ref 170, .int (zn (3))]) (r := []) (ykc_214 (e := (6, .invokevirtual 239, 0)) rfl) rfl rfl rfl rfl (ihr.2 _ 3 _ (a1 + 1) ns cs1 (zRF_S ((show zRF ph ph1616 from (zFr_trans (zFr_mono f1 (by simp) (by simp)) (zFr_mono f2 (by simp) (by simp))))) hS) (by first | exact znt (by decide) | omega) (by decide) ⟨hT2, (f2.1 170 17 (by decide) (by decide)).trans h171, zRc_F f2 (by simp) (by simp) hR1⟩ hns (by omega)) (fun v1619 ph1620 hv => ?_)
            rcases hv with ⟨f3, g3, ok3, a3, cs3, hz3, rfl, hT3, hR3, h173, ha3, hl3⟩
            · cases ok3 with
              | false =>
                show zW n D 214 Q 67 [some (.ref 170), some (.int x), some (.int (Int32.ofInt 1)), some (.int (zn k9))] [.int (zI false)] ph1620
                refine w_bne (ykc_214 (e := (4, .ifCond .ne 5, 72)) rfl) rfl (fun q => absurd q (by decide)) (fun b1621 => ?_)
                refine w_alu (pc' := 71) (st' := [.int (Int32.ofInt 0)]) (ykc_214 (e := (0, .iconst 0, 0)) rfl) rfl rfl ?_
                refine w_ret (v := (some (.int (Int32.ofInt 0)))) (ykc_214 (e := (7, .ireturn, 0)) rfl) zr_z ?_
                rw [hQ, zi0]
                obtain ⟨g9, hg9⟩ := hcon _ _ (zde_lf (r := 2) ⟨ha9, e7⟩ hz3)
                exact ⟨(show zRF ph ph1620 from (zFr_trans (zFr_trans (zFr_mono f1 (by simp) (by simp)) (zFr_mono f2 (by simp) (by simp))) (zFr_mono f3 (by simp) (by simp)))), g9, false, a3, cs3, hg9, rfl, hT3, hR3, fun h => absurd h (by decide), by omega, by omega⟩
              | true =>
                show zW n D 214 Q 67 [some (.ref 170), some (.int x), some (.int (Int32.ofInt 1)), some (.int (zn k9))] [.int (zI true)] ph1620
                have hb3 := hT3.2.2.1
                refine w_bne (ykc_214 (e := (4, .ifCond .ne 5, 72)) rfl) rfl (fun b1622 => ?_) (fun q => absurd q (by decide))
                refine w_load (pc' := 73) (v := .ref 170) (m := 1) (ykc_214 (e := (2, .aload_n kF0, 0)) rfl) rfl rfl ?_
                refine w_push (pc' := 76) (v := .int ((Int16.ofInt 2000).toInt32)) (m := 3) (ykc_214 (e := (1, .sipush 2000, 0)) rfl) rfl rfl ?_
                refine w_load (pc' := 77) (v := .int (zn k9)) (m := 1) (ykc_214 (e := (2, .iload_n kF3, 0)) rfl) rfl rfl ?_
                have e1623 : ((Int16.ofInt 2000).toInt32) + (zn k9) = zn (2000 + k9) := (zaddN (a := 2000) (b := k9) c_0 (znt (by omega)) (by omega)) 
                have te1623 := znt (k := 2000 + k9) (by omega)
                refine w_alu (pc' := 78) (st' := [.int (zn (2000 + k9)), .ref 170]) (ykc_214 (e := (0, .iadd, 0)) rfl) (by rw [← e1623]; rfl) rfl ?_
                refine w_load (pc' := 79) (v := .int x) (m := 1) (ykc_214 (e := (2, .iload_n kF1, 0)) rfl) rfl rfl ?_
                refine w_zne (ykc_214 (e := (4, .ifCond .ne 7, 86)) rfl) rfl (fun b1624 => ?_) (fun q => by exfalso; omega)
                refine w_load (pc' := 87) (v := .int x) (m := 1) (ykc_214 (e := (2, .iload_n kF1, 0)) rfl) rfl rfl ?_
                refine w_alu (pc' := 88) (st' := [.int (Int32.ofInt 1), .int x, .int (zn (2000 + k9)), .ref 170]) (ykc_214 (e := (0, .iconst 1, 0)) rfl) rfl rfl ?_
                refine w_ine (ykc_214 (e := (4, .if_icmp .ne 7, 95)) rfl) rfl (fun b1625 => ?_) (fun q => by exfalso; omega)
                refine w_alu (pc' := 96) (st' := [.int (Int32.ofInt 5), .int (zn (2000 + k9)), .ref 170]) (ykc_214 (e := (0, .iconst 5, 0)) rfl) rfl rfl ?_
                have e1626 : (zn (2000 + k9)) + (Int32.ofInt 5) = zn (2000 + k9 + 5) := (zaddN (a := 2000 + k9) (b := 5) (znt (by omega)) c_4 (by omega)) 
                have te1626 := znt (k := 2000 + k9 + 5) (by omega)
                refine w_alu (pc' := 97) (st' := [.int (zn (2000 + k9 + 5)), .ref 170]) (ykc_214 (e := (0, .iadd, 0)) rfl) (by rw [← e1626]; rfl) rfl ?_
                refine w_cv (as := [.ref 170, .int (zn (2000 + k9 + 5))]) (r := []) (ykc_214 (e := (6, .invokevirtual 233, 0)) rfl) rfl rfl rfl rfl (zm_codes (c := 2000 + k9 + 5) (zRF_S ((show zRF ph ph1620 from (zFr_trans (zFr_trans (zFr_mono f1 (by simp) (by simp)) (zFr_mono f2 (by simp) (by simp))) (zFr_mono f3 (by simp) (by simp))))) hS) hR3 (by first | rfl | (apply congrArg zn; omega)) (by omega) (by omega)) (fun v1627 ph1628 hv => ?_)
                obtain ⟨rfl, fc, hR4⟩ := hv
                show zW n D 214 Q 100 [some (.ref 170), some (.int x), some (.int (Int32.ofInt 1)), some (.int (zn k9))] [] ph1628
                refine w_load (pc' := 101) (v := .int x) (m := 1) (ykc_214 (e := (2, .iload_n kF1, 0)) rfl) rfl rfl ?_
                refine w_zle (ykc_214 (e := (4, .ifCond .le 7, 108)) rfl) rfl (fun q => by exfalso; omega) (fun b1629 => ?_)
                refine w_alu (pc' := 105) (st' := [.int (Int32.ofInt 1)]) (ykc_214 (e := (0, .iconst 1, 0)) rfl) rfl rfl ?_
                refine w_br (pc' := 109) (st' := [.int (Int32.ofInt 1)]) (ykc_214 (e := (4, .goto 4, 109)) rfl) rfl ?_
                refine w_store (pc' := 110) (L' := [some (.ref 170), some (.int x), some (.int (Int32.ofInt 1)), some (.int (zn k9))]) (st' := []) (m := 1) (ykc_214 (e := (3, .istore_n kF2, 0)) rfl) rfl rfl ?_
                refine w_gb (ykc_214 (e := (4, .goto (-86), 24)) rfl) (fun k1630 hk1630 => ?_)
                have hab3 := hT3.2.2.1
                have hR5 : zRc ph1628 (zop (t a1) :: cs3) := by rw [e8, show 2005 + k9 = 2000 + k9 + 5 by omega]; exact hR4
                have hT5 := zTm_F fc (by simp) (by simp) (by simp) hT3
                have h175 := (fc.1 170 17 (by decide) (by decide)).trans (h173 rfl)
                have hl5 : (zop (t a1) :: cs3).length + a ≤ cs.length + a3 := by show cs3.length + 1 + a ≤ _; omega
                exact ih k1630 hk1630 _ a3 (zop (t a1) :: cs3) _ ((show zRF ph ph1628 from (zFr_trans (zFr_trans (zFr_trans (zFr_mono f1 (by simp) (by simp)) (zFr_mono f2 (by simp) (by simp))) (zFr_mono f3 (by simp) (by simp))) (zFr_mono fc (by simp) (by simp))))) hT5 h175 hR5 (by omega) hl5 (fun g y h => by
                  obtain ⟨g9, hg9⟩ := zde_lt (r := 2) (by decide) ⟨ha9, e7⟩ hz3 h
                  exact hcon _ _ hg9)
            
          · have tm1 : (Int32.ofInt (-1)).toInt = -1 := by decide
            have hno : ¬ (a1 < b ∧ zrk2 2 (t a1) = true) := fun q => by
              obtain ⟨k, hk, e⟩ := zrk_c.2.2 q.2
              exact hn9 q.1 k hk e.symm
            show zW n D 214 Q 53 [some (.ref 170), some (.int x), some (.int (Int32.ofInt 1)), o9] [.int (Int32.ofInt (-1))] ph1616
            refine w_store (pc' := 54) (L' := [some (.ref 170), some (.int x), some (.int (Int32.ofInt 1)), some (.int (Int32.ofInt (-1)))]) (st' := []) (m := 1) (ykc_214 (e := (3, .istore_n kF3, 0)) rfl) rfl rfl ?_
            refine w_load (pc' := 55) (v := .int (Int32.ofInt (-1))) (m := 1) (ykc_214 (e := (2, .iload_n kF3, 0)) rfl) rfl rfl ?_
            refine w_zge (ykc_214 (e := (4, .ifCond .ge 5, 60)) rfl) rfl (fun q => by exfalso; omega) (fun b1631 => ?_)
            refine w_alu (pc' := 59) (st' := [.int (Int32.ofInt 1)]) (ykc_214 (e := (0, .iconst 1, 0)) rfl) rfl rfl ?_
            refine w_ret (v := (some (.int (Int32.ofInt 1)))) (ykc_214 (e := (7, .ireturn, 0)) rfl) zr_z ?_
            rw [hQ, zi1]
            obtain ⟨g9, hg9⟩ := hcon _ _ (zde_l0 hno)
            exact ⟨(show zRF ph ph1616 from (zFr_trans (zFr_mono f1 (by simp) (by simp)) (zFr_mono f2 (by simp) (by simp)))), g9, true, a1, cs1, hg9, rfl, hT2, zRc_F f2 (by simp) (by simp) hR1, fun _ => (f2.1 170 17 (by decide) (by decide)).trans h171, ha1, hl1⟩
          
      exact hl9 n _ a1 cs1 _ f1 hT1 (h171 rfl) hR1 ha1 hl1 (fun g y h => zde_rt (by decide) hz1 h)
      
  
theorem zm_rankD1 {b ln : Nat} {t : Nat → Nat} {D : Nat} (ih : zIHr b ln t D) (hb40 : b ≤ 40) {ph : pm_H} {a ns : Nat} {cs : List Nat} (hS : zSh ph) (hp : zRp b ln t ph a ns cs) (hns : ns ≤ 4) (hl : cs.length ≤ a) {x : Int32} (hx : x.toInt = ((1 : Nat) : Int)) : zMD (D + 1) 214 [.ref 170, .int x] ph (zRq b ln t 1 a ns cs ph) := by
  obtain ⟨Q, hQ⟩ : ∃ Q : Option Value → pm_H → Prop, Q = (zRq b ln t 1 a ns cs ph) := ⟨_, rfl⟩
  rw [← hQ]
  refine zMD_mk fun n => ?_
  show zW n D 214 Q 0 [some (.ref 170), some (.int x), none, none] [] ph
  have c_0 : ((Int16.ofInt 2000).toInt32).toInt = 2000 := by decide
  have c_1 : (Int32.ofInt 0).toInt = 0 := by decide
  have c_2 : (Int32.ofInt 1).toInt = 1 := by decide
  have c_3 : (Int32.ofInt 3).toInt = 3 := by decide
  have c_4 : (Int32.ofInt 5).toInt = 5 := by decide
  have ihr := ih
  obtain ⟨hT, h17, hR⟩ := hp
  have hab := hT.2.2.1
  refine w_load (pc' := 1) (v := .int x) (m := 1) (ykc_214 (e := (2, .iload_n kF1, 0)) rfl) rfl rfl ?_
  refine w_alu (pc' := 2) (st' := [.int (Int32.ofInt 3), .int x]) (ykc_214 (e := (0, .iconst 3, 0)) rfl) rfl rfl ?_
  refine w_ine (ykc_214 (e := (4, .if_icmp .ne 8, 10)) rfl) rfl (fun b1632 => ?_) (fun q => by exfalso; omega)
  refine w_load (pc' := 11) (v := .ref 170) (m := 1) (ykc_214 (e := (2, .aload_n kF0, 0)) rfl) rfl rfl ?_
  refine w_load (pc' := 12) (v := .int x) (m := 1) (ykc_214 (e := (2, .iload_n kF1, 0)) rfl) rfl rfl ?_
  refine w_alu (pc' := 13) (st' := [.int (Int32.ofInt 1), .int x, .ref 170]) (ykc_214 (e := (0, .iconst 1, 0)) rfl) rfl rfl ?_
  have e1633 : x + (Int32.ofInt 1) = zn (2) := (zaddN (a := 1) (b := 1) (by omega) c_2 (by omega)) 
  have te1633 := znt (k := 2) (by omega)
  refine w_alu (pc' := 14) (st' := [.int (zn (2)), .ref 170]) (ykc_214 (e := (0, .iadd, 0)) rfl) (by rw [← e1633]; rfl) rfl ?_
  refine w_cvD (as := [.ref 170, .int (zn (2))]) (r := []) (ykc_214 (e := (6, .invokevirtual 239, 0)) rfl) rfl rfl rfl rfl (ihr.2 _ 2 _ a ns cs hS (by first | exact znt (by decide) | omega) (by decide) ⟨hT, h17, hR⟩ hns hl) (fun v1634 ph1635 hv => ?_)
  rcases hv with ⟨f1, g1, ok1, a1, cs1, hz1, rfl, hT1, hR1, h171, ha1, hl1⟩
  · cases ok1 with
    | false =>
      show zW n D 214 Q 17 [some (.ref 170), some (.int x), none, none] [.int (zI false)] ph1635
      refine w_bne (ykc_214 (e := (4, .ifCond .ne 5, 22)) rfl) rfl (fun q => absurd q (by decide)) (fun b1636 => ?_)
      refine w_alu (pc' := 21) (st' := [.int (Int32.ofInt 0)]) (ykc_214 (e := (0, .iconst 0, 0)) rfl) rfl rfl ?_
      refine w_ret (v := (some (.int (Int32.ofInt 0)))) (ykc_214 (e := (7, .ireturn, 0)) rfl) zr_z ?_
      rw [hQ, zi0]
      refine ⟨f1, g1 + 1, false, a1, cs1, zde_rf (by decide) hz1, rfl, hT1, hR1, fun h => absurd h (by decide), ha1, hl1⟩
    | true =>
      show zW n D 214 Q 17 [some (.ref 170), some (.int x), none, none] [.int (zI true)] ph1635
      refine w_bne (ykc_214 (e := (4, .ifCond .ne 5, 22)) rfl) rfl (fun b1637 => ?_) (fun q => absurd q (by decide))
      refine w_alu (pc' := 23) (st' := [.int (Int32.ofInt 1)]) (ykc_214 (e := (0, .iconst 1, 0)) rfl) rfl rfl ?_
      refine w_store (pc' := 24) (L' := [some (.ref 170), some (.int x), some (.int (Int32.ofInt 1)), none]) (st' := []) (m := 1) (ykc_214 (e := (3, .istore_n kF2, 0)) rfl) rfl rfl ?_
      have hl9 : ∀ (n : Nat), ∀ (p : pm_H) (a1 : Nat) (cs1 : List Nat) (o9 : Option Value), (zRF ph p) → (zTm p a1 b ln t) → (zc p 170 17 = some (.int (zn ns))) → (zRc p cs1) → (a ≤ a1) → (cs1.length + a ≤ cs.length + a1) → (∀ g y, zde b t g 5 a1 ns cs1 = some y → ∃ f, zde b t f 1 a ns cs = some y) → zW n D 214 Q 24 [some (.ref 170), some (.int x), some (.int (Int32.ofInt 1)), o9] [] p := by
        intro n
        induction n using Nat.strongRecOn with
        | ind n ih =>
          intro p a1 cs1 o9 f1 hT1 h171 hR1 ha1 hl1 hcon
          have hab1 := hT1.2.2.1
          refine w_load (pc' := 25) (v := .int (Int32.ofInt 1)) (m := 1) (ykc_214 (e := (2, .iload_n kF2, 0)) rfl) rfl rfl ?_
          refine w_zeq (ykc_214 (e := (4, .ifCond .eq 88, 113)) rfl) rfl (fun q => by exfalso; omega) (fun b1638 => ?_)
          refine w_load (pc' := 29) (v := .ref 170) (m := 1) (ykc_214 (e := (2, .aload_n kF0, 0)) rfl) rfl rfl ?_
          refine w_load (pc' := 30) (v := .int x) (m := 1) (ykc_214 (e := (2, .iload_n kF1, 0)) rfl) rfl rfl ?_
          refine w_zne (ykc_214 (e := (4, .ifCond .ne 8, 38)) rfl) rfl (fun b1639 => ?_) (fun q => by exfalso; omega)
          refine w_load (pc' := 39) (v := .int x) (m := 1) (ykc_214 (e := (2, .iload_n kF1, 0)) rfl) rfl rfl ?_
          refine w_alu (pc' := 40) (st' := [.int (Int32.ofInt 1), .int x, .ref 170]) (ykc_214 (e := (0, .iconst 1, 0)) rfl) rfl rfl ?_
          refine w_ine (ykc_214 (e := (4, .if_icmp .ne 8, 48)) rfl) rfl (fun q => by exfalso; omega) (fun b1640 => ?_)
          refine w_push (pc' := 45) (v := .ref 1048630) (m := 2) (ykc_214 (e := (1, .ldc 244, 0)) rfl) rfl rfl ?_
          refine w_br (pc' := 50) (st' := [.ref 1048630, .ref 170]) (ykc_214 (e := (4, .goto 5, 50)) rfl) rfl ?_
          refine w_cv (as := [.ref 170, .ref 1048630]) (r := []) (ykc_214 (e := (6, .invokevirtual 184, 0)) rfl) rfl rfl rfl rfl (zm_takesOf (zRF_S ((show zRF ph p from (zFr_mono f1 (by simp) (by simp)))) hS) hT1 zstr_add) (fun v1641 ph1642 hv => ?_)
          rcases hv with ⟨f2, ⟨k9, hk9, ha9, hc9, rfl, hT2⟩ | ⟨hn9, rfl, hT2⟩⟩
          · have tk9 := znt (k := k9) (by omega)
            have e8 : zop (t a1) = 2003 + k9 := by rw [hc9]; exact (zrk_a.2.1 k9 hk9).2
            have e7 : zrk2 1 (t a1) = true := by rw [hc9]; exact (zrk_a.2.1 k9 hk9).1
            show zW n D 214 Q 53 [some (.ref 170), some (.int x), some (.int (Int32.ofInt 1)), o9] [.int (zn k9)] ph1642
            refine w_store (pc' := 54) (L' := [some (.ref 170), some (.int x), some (.int (Int32.ofInt 1)), some (.int (zn k9))]) (st' := []) (m := 1) (ykc_214 (e := (3, .istore_n kF3, 0)) rfl) rfl rfl ?_
            refine w_load (pc' := 55) (v := .int (zn k9)) (m := 1) (ykc_214 (e := (2, .iload_n kF3, 0)) rfl) rfl rfl ?_
            refine w_zge (ykc_214 (e := (4, .ifCond .ge 5, 60)) rfl) rfl (fun b1643 => ?_) (fun q => by exfalso; omega)
            refine w_load (pc' := 61) (v := .ref 170) (m := 1) (ykc_214 (e := (2, .aload_n kF0, 0)) rfl) rfl rfl ?_
            refine w_load (pc' := 62) (v := .int x) (m := 1) (ykc_214 (e := (2, .iload_n kF1, 0)) rfl) rfl rfl ?_
            refine w_alu (pc' := 63) (st' := [.int (Int32.ofInt 1), .int x, .ref 170]) (ykc_214 (e := (0, .iconst 1, 0)) rfl) rfl rfl ?_
            have e1644 : x + (Int32.ofInt 1) = zn (2) := (zaddN (a := 1) (b := 1) (by omega) c_2 (by omega)) 
            have te1644 := znt (k := 2) (by omega)
            refine w_alu (pc' := 64) (st' := [.int (zn (2)), .ref 170]) (ykc_214 (e := (0, .iadd, 0)) rfl) (by rw [← e1644]; rfl) rfl ?_
            refine w_cvD (as := [.ref 170, .int (zn (2))]) (r := []) (ykc_214 (e := (6, .invokevirtual 239, 0)) rfl) rfl rfl rfl rfl (ihr.2 _ 2 _ (a1 + 1) ns cs1 (zRF_S ((show zRF ph ph1642 from (zFr_trans (zFr_mono f1 (by simp) (by simp)) (zFr_mono f2 (by simp) (by simp))))) hS) (by first | exact znt (by decide) | omega) (by decide) ⟨hT2, (f2.1 170 17 (by decide) (by decide)).trans h171, zRc_F f2 (by simp) (by simp) hR1⟩ hns (by omega)) (fun v1645 ph1646 hv => ?_)
            rcases hv with ⟨f3, g3, ok3, a3, cs3, hz3, rfl, hT3, hR3, h173, ha3, hl3⟩
            · cases ok3 with
              | false =>
                show zW n D 214 Q 67 [some (.ref 170), some (.int x), some (.int (Int32.ofInt 1)), some (.int (zn k9))] [.int (zI false)] ph1646
                refine w_bne (ykc_214 (e := (4, .ifCond .ne 5, 72)) rfl) rfl (fun q => absurd q (by decide)) (fun b1647 => ?_)
                refine w_alu (pc' := 71) (st' := [.int (Int32.ofInt 0)]) (ykc_214 (e := (0, .iconst 0, 0)) rfl) rfl rfl ?_
                refine w_ret (v := (some (.int (Int32.ofInt 0)))) (ykc_214 (e := (7, .ireturn, 0)) rfl) zr_z ?_
                rw [hQ, zi0]
                obtain ⟨g9, hg9⟩ := hcon _ _ (zde_lf (r := 1) ⟨ha9, e7⟩ hz3)
                exact ⟨(show zRF ph ph1646 from (zFr_trans (zFr_trans (zFr_mono f1 (by simp) (by simp)) (zFr_mono f2 (by simp) (by simp))) (zFr_mono f3 (by simp) (by simp)))), g9, false, a3, cs3, hg9, rfl, hT3, hR3, fun h => absurd h (by decide), by omega, by omega⟩
              | true =>
                show zW n D 214 Q 67 [some (.ref 170), some (.int x), some (.int (Int32.ofInt 1)), some (.int (zn k9))] [.int (zI true)] ph1646
                have hb3 := hT3.2.2.1
                refine w_bne (ykc_214 (e := (4, .ifCond .ne 5, 72)) rfl) rfl (fun b1648 => ?_) (fun q => absurd q (by decide))
                refine w_load (pc' := 73) (v := .ref 170) (m := 1) (ykc_214 (e := (2, .aload_n kF0, 0)) rfl) rfl rfl ?_
                refine w_push (pc' := 76) (v := .int ((Int16.ofInt 2000).toInt32)) (m := 3) (ykc_214 (e := (1, .sipush 2000, 0)) rfl) rfl rfl ?_
                refine w_load (pc' := 77) (v := .int (zn k9)) (m := 1) (ykc_214 (e := (2, .iload_n kF3, 0)) rfl) rfl rfl ?_
                have e1649 : ((Int16.ofInt 2000).toInt32) + (zn k9) = zn (2000 + k9) := (zaddN (a := 2000) (b := k9) c_0 (znt (by omega)) (by omega)) 
                have te1649 := znt (k := 2000 + k9) (by omega)
                refine w_alu (pc' := 78) (st' := [.int (zn (2000 + k9)), .ref 170]) (ykc_214 (e := (0, .iadd, 0)) rfl) (by rw [← e1649]; rfl) rfl ?_
                refine w_load (pc' := 79) (v := .int x) (m := 1) (ykc_214 (e := (2, .iload_n kF1, 0)) rfl) rfl rfl ?_
                refine w_zne (ykc_214 (e := (4, .ifCond .ne 7, 86)) rfl) rfl (fun b1650 => ?_) (fun q => by exfalso; omega)
                refine w_load (pc' := 87) (v := .int x) (m := 1) (ykc_214 (e := (2, .iload_n kF1, 0)) rfl) rfl rfl ?_
                refine w_alu (pc' := 88) (st' := [.int (Int32.ofInt 1), .int x, .int (zn (2000 + k9)), .ref 170]) (ykc_214 (e := (0, .iconst 1, 0)) rfl) rfl rfl ?_
                refine w_ine (ykc_214 (e := (4, .if_icmp .ne 7, 95)) rfl) rfl (fun q => by exfalso; omega) (fun b1651 => ?_)
                refine w_alu (pc' := 92) (st' := [.int (Int32.ofInt 3), .int (zn (2000 + k9)), .ref 170]) (ykc_214 (e := (0, .iconst 3, 0)) rfl) rfl rfl ?_
                refine w_br (pc' := 96) (st' := [.int (Int32.ofInt 3), .int (zn (2000 + k9)), .ref 170]) (ykc_214 (e := (4, .goto 4, 96)) rfl) rfl ?_
                have e1652 : (zn (2000 + k9)) + (Int32.ofInt 3) = zn (2000 + k9 + 3) := (zaddN (a := 2000 + k9) (b := 3) (znt (by omega)) c_3 (by omega)) 
                have te1652 := znt (k := 2000 + k9 + 3) (by omega)
                refine w_alu (pc' := 97) (st' := [.int (zn (2000 + k9 + 3)), .ref 170]) (ykc_214 (e := (0, .iadd, 0)) rfl) (by rw [← e1652]; rfl) rfl ?_
                refine w_cv (as := [.ref 170, .int (zn (2000 + k9 + 3))]) (r := []) (ykc_214 (e := (6, .invokevirtual 233, 0)) rfl) rfl rfl rfl rfl (zm_codes (c := 2000 + k9 + 3) (zRF_S ((show zRF ph ph1646 from (zFr_trans (zFr_trans (zFr_mono f1 (by simp) (by simp)) (zFr_mono f2 (by simp) (by simp))) (zFr_mono f3 (by simp) (by simp))))) hS) hR3 (by first | rfl | (apply congrArg zn; omega)) (by omega) (by omega)) (fun v1653 ph1654 hv => ?_)
                obtain ⟨rfl, fc, hR4⟩ := hv
                show zW n D 214 Q 100 [some (.ref 170), some (.int x), some (.int (Int32.ofInt 1)), some (.int (zn k9))] [] ph1654
                refine w_load (pc' := 101) (v := .int x) (m := 1) (ykc_214 (e := (2, .iload_n kF1, 0)) rfl) rfl rfl ?_
                refine w_zle (ykc_214 (e := (4, .ifCond .le 7, 108)) rfl) rfl (fun q => by exfalso; omega) (fun b1655 => ?_)
                refine w_alu (pc' := 105) (st' := [.int (Int32.ofInt 1)]) (ykc_214 (e := (0, .iconst 1, 0)) rfl) rfl rfl ?_
                refine w_br (pc' := 109) (st' := [.int (Int32.ofInt 1)]) (ykc_214 (e := (4, .goto 4, 109)) rfl) rfl ?_
                refine w_store (pc' := 110) (L' := [some (.ref 170), some (.int x), some (.int (Int32.ofInt 1)), some (.int (zn k9))]) (st' := []) (m := 1) (ykc_214 (e := (3, .istore_n kF2, 0)) rfl) rfl rfl ?_
                refine w_gb (ykc_214 (e := (4, .goto (-86), 24)) rfl) (fun k1656 hk1656 => ?_)
                have hab3 := hT3.2.2.1
                have hR5 : zRc ph1654 (zop (t a1) :: cs3) := by rw [e8, show 2003 + k9 = 2000 + k9 + 3 by omega]; exact hR4
                have hT5 := zTm_F fc (by simp) (by simp) (by simp) hT3
                have h175 := (fc.1 170 17 (by decide) (by decide)).trans (h173 rfl)
                have hl5 : (zop (t a1) :: cs3).length + a ≤ cs.length + a3 := by show cs3.length + 1 + a ≤ _; omega
                exact ih k1656 hk1656 _ a3 (zop (t a1) :: cs3) _ ((show zRF ph ph1654 from (zFr_trans (zFr_trans (zFr_trans (zFr_mono f1 (by simp) (by simp)) (zFr_mono f2 (by simp) (by simp))) (zFr_mono f3 (by simp) (by simp))) (zFr_mono fc (by simp) (by simp))))) hT5 h175 hR5 (by omega) hl5 (fun g y h => by
                  obtain ⟨g9, hg9⟩ := zde_lt (r := 1) (by decide) ⟨ha9, e7⟩ hz3 h
                  exact hcon _ _ hg9)
            
          · have tm1 : (Int32.ofInt (-1)).toInt = -1 := by decide
            have hno : ¬ (a1 < b ∧ zrk2 1 (t a1) = true) := fun q => by
              obtain ⟨k, hk, e⟩ := zrk_c.2.1 q.2
              exact hn9 q.1 k hk e.symm
            show zW n D 214 Q 53 [some (.ref 170), some (.int x), some (.int (Int32.ofInt 1)), o9] [.int (Int32.ofInt (-1))] ph1642
            refine w_store (pc' := 54) (L' := [some (.ref 170), some (.int x), some (.int (Int32.ofInt 1)), some (.int (Int32.ofInt (-1)))]) (st' := []) (m := 1) (ykc_214 (e := (3, .istore_n kF3, 0)) rfl) rfl rfl ?_
            refine w_load (pc' := 55) (v := .int (Int32.ofInt (-1))) (m := 1) (ykc_214 (e := (2, .iload_n kF3, 0)) rfl) rfl rfl ?_
            refine w_zge (ykc_214 (e := (4, .ifCond .ge 5, 60)) rfl) rfl (fun q => by exfalso; omega) (fun b1657 => ?_)
            refine w_alu (pc' := 59) (st' := [.int (Int32.ofInt 1)]) (ykc_214 (e := (0, .iconst 1, 0)) rfl) rfl rfl ?_
            refine w_ret (v := (some (.int (Int32.ofInt 1)))) (ykc_214 (e := (7, .ireturn, 0)) rfl) zr_z ?_
            rw [hQ, zi1]
            obtain ⟨g9, hg9⟩ := hcon _ _ (zde_l0 hno)
            exact ⟨(show zRF ph ph1642 from (zFr_trans (zFr_mono f1 (by simp) (by simp)) (zFr_mono f2 (by simp) (by simp)))), g9, true, a1, cs1, hg9, rfl, hT2, zRc_F f2 (by simp) (by simp) hR1, fun _ => (f2.1 170 17 (by decide) (by decide)).trans h171, ha1, hl1⟩
          
      exact hl9 n _ a1 cs1 _ f1 hT1 (h171 rfl) hR1 ha1 hl1 (fun g y h => zde_rt (by decide) hz1 h)
      
  
theorem zm_rankD0 {b ln : Nat} {t : Nat → Nat} {D : Nat} (ih : zIHr b ln t D) (hb40 : b ≤ 40) {ph : pm_H} {a ns : Nat} {cs : List Nat} (hS : zSh ph) (hp : zRp b ln t ph a ns cs) (hns : ns ≤ 4) (hl : cs.length ≤ a) {x : Int32} (hx : x.toInt = ((0 : Nat) : Int)) : zMD (D + 1) 214 [.ref 170, .int x] ph (zRq b ln t 0 a ns cs ph) := by
  obtain ⟨Q, hQ⟩ : ∃ Q : Option Value → pm_H → Prop, Q = (zRq b ln t 0 a ns cs ph) := ⟨_, rfl⟩
  rw [← hQ]
  refine zMD_mk fun n => ?_
  show zW n D 214 Q 0 [some (.ref 170), some (.int x), none, none] [] ph
  have c_0 : ((Int16.ofInt 2000).toInt32).toInt = 2000 := by decide
  have c_1 : (Int32.ofInt 0).toInt = 0 := by decide
  have c_2 : (Int32.ofInt 1).toInt = 1 := by decide
  have c_3 : (Int32.ofInt 3).toInt = 3 := by decide
  have c_4 : (Int32.ofInt 5).toInt = 5 := by decide
  have ihr := ih
  obtain ⟨hT, h17, hR⟩ := hp
  have hab := hT.2.2.1
  refine w_load (pc' := 1) (v := .int x) (m := 1) (ykc_214 (e := (2, .iload_n kF1, 0)) rfl) rfl rfl ?_
  refine w_alu (pc' := 2) (st' := [.int (Int32.ofInt 3), .int x]) (ykc_214 (e := (0, .iconst 3, 0)) rfl) rfl rfl ?_
  refine w_ine (ykc_214 (e := (4, .if_icmp .ne 8, 10)) rfl) rfl (fun b1658 => ?_) (fun q => by exfalso; omega)
  refine w_load (pc' := 11) (v := .ref 170) (m := 1) (ykc_214 (e := (2, .aload_n kF0, 0)) rfl) rfl rfl ?_
  refine w_load (pc' := 12) (v := .int x) (m := 1) (ykc_214 (e := (2, .iload_n kF1, 0)) rfl) rfl rfl ?_
  refine w_alu (pc' := 13) (st' := [.int (Int32.ofInt 1), .int x, .ref 170]) (ykc_214 (e := (0, .iconst 1, 0)) rfl) rfl rfl ?_
  have e1659 : x + (Int32.ofInt 1) = zn (1) := (zaddN (a := 0) (b := 1) (by omega) c_2 (by omega)) 
  have te1659 := znt (k := 1) (by omega)
  refine w_alu (pc' := 14) (st' := [.int (zn (1)), .ref 170]) (ykc_214 (e := (0, .iadd, 0)) rfl) (by rw [← e1659]; rfl) rfl ?_
  refine w_cvD (as := [.ref 170, .int (zn (1))]) (r := []) (ykc_214 (e := (6, .invokevirtual 239, 0)) rfl) rfl rfl rfl rfl (ihr.2 _ 1 _ a ns cs hS (by first | exact znt (by decide) | omega) (by decide) ⟨hT, h17, hR⟩ hns hl) (fun v1660 ph1661 hv => ?_)
  rcases hv with ⟨f1, g1, ok1, a1, cs1, hz1, rfl, hT1, hR1, h171, ha1, hl1⟩
  · cases ok1 with
    | false =>
      show zW n D 214 Q 17 [some (.ref 170), some (.int x), none, none] [.int (zI false)] ph1661
      refine w_bne (ykc_214 (e := (4, .ifCond .ne 5, 22)) rfl) rfl (fun q => absurd q (by decide)) (fun b1662 => ?_)
      refine w_alu (pc' := 21) (st' := [.int (Int32.ofInt 0)]) (ykc_214 (e := (0, .iconst 0, 0)) rfl) rfl rfl ?_
      refine w_ret (v := (some (.int (Int32.ofInt 0)))) (ykc_214 (e := (7, .ireturn, 0)) rfl) zr_z ?_
      rw [hQ, zi0]
      refine ⟨f1, g1 + 1, false, a1, cs1, zde_rf (by decide) hz1, rfl, hT1, hR1, fun h => absurd h (by decide), ha1, hl1⟩
    | true =>
      show zW n D 214 Q 17 [some (.ref 170), some (.int x), none, none] [.int (zI true)] ph1661
      refine w_bne (ykc_214 (e := (4, .ifCond .ne 5, 22)) rfl) rfl (fun b1663 => ?_) (fun q => absurd q (by decide))
      refine w_alu (pc' := 23) (st' := [.int (Int32.ofInt 1)]) (ykc_214 (e := (0, .iconst 1, 0)) rfl) rfl rfl ?_
      refine w_store (pc' := 24) (L' := [some (.ref 170), some (.int x), some (.int (Int32.ofInt 1)), none]) (st' := []) (m := 1) (ykc_214 (e := (3, .istore_n kF2, 0)) rfl) rfl rfl ?_
      have hl9 : ∀ (n : Nat), ∀ (p : pm_H) (a1 : Nat) (cs1 : List Nat) (o9 : Option Value), (zRF ph p) → (zTm p a1 b ln t) → (zc p 170 17 = some (.int (zn ns))) → (zRc p cs1) → (a ≤ a1) → (cs1.length + a ≤ cs.length + a1) → (∀ g y, zde b t g 4 a1 ns cs1 = some y → ∃ f, zde b t f 0 a ns cs = some y) → zW n D 214 Q 24 [some (.ref 170), some (.int x), some (.int (Int32.ofInt 1)), o9] [] p := by
        intro n
        induction n using Nat.strongRecOn with
        | ind n ih =>
          intro p a1 cs1 o9 f1 hT1 h171 hR1 ha1 hl1 hcon
          have hab1 := hT1.2.2.1
          refine w_load (pc' := 25) (v := .int (Int32.ofInt 1)) (m := 1) (ykc_214 (e := (2, .iload_n kF2, 0)) rfl) rfl rfl ?_
          refine w_zeq (ykc_214 (e := (4, .ifCond .eq 88, 113)) rfl) rfl (fun q => by exfalso; omega) (fun b1664 => ?_)
          refine w_load (pc' := 29) (v := .ref 170) (m := 1) (ykc_214 (e := (2, .aload_n kF0, 0)) rfl) rfl rfl ?_
          refine w_load (pc' := 30) (v := .int x) (m := 1) (ykc_214 (e := (2, .iload_n kF1, 0)) rfl) rfl rfl ?_
          refine w_zne (ykc_214 (e := (4, .ifCond .ne 8, 38)) rfl) rfl (fun q => by exfalso; omega) (fun b1665 => ?_)
          refine w_push (pc' := 35) (v := .ref 1048629) (m := 2) (ykc_214 (e := (1, .ldc 242, 0)) rfl) rfl rfl ?_
          refine w_br (pc' := 50) (st' := [.ref 1048629, .ref 170]) (ykc_214 (e := (4, .goto 15, 50)) rfl) rfl ?_
          refine w_cv (as := [.ref 170, .ref 1048629]) (r := []) (ykc_214 (e := (6, .invokevirtual 184, 0)) rfl) rfl rfl rfl rfl (zm_takesOf (zRF_S ((show zRF ph p from (zFr_mono f1 (by simp) (by simp)))) hS) hT1 zstr_cmp) (fun v1666 ph1667 hv => ?_)
          rcases hv with ⟨f2, ⟨k9, hk9, ha9, hc9, rfl, hT2⟩ | ⟨hn9, rfl, hT2⟩⟩
          · have tk9 := znt (k := k9) (by omega)
            have e8 : zop (t a1) = 2000 + k9 := by rw [hc9]; exact (zrk_a.1 k9 hk9).2
            have e7 : zrk2 0 (t a1) = true := by rw [hc9]; exact (zrk_a.1 k9 hk9).1
            show zW n D 214 Q 53 [some (.ref 170), some (.int x), some (.int (Int32.ofInt 1)), o9] [.int (zn k9)] ph1667
            refine w_store (pc' := 54) (L' := [some (.ref 170), some (.int x), some (.int (Int32.ofInt 1)), some (.int (zn k9))]) (st' := []) (m := 1) (ykc_214 (e := (3, .istore_n kF3, 0)) rfl) rfl rfl ?_
            refine w_load (pc' := 55) (v := .int (zn k9)) (m := 1) (ykc_214 (e := (2, .iload_n kF3, 0)) rfl) rfl rfl ?_
            refine w_zge (ykc_214 (e := (4, .ifCond .ge 5, 60)) rfl) rfl (fun b1668 => ?_) (fun q => by exfalso; omega)
            refine w_load (pc' := 61) (v := .ref 170) (m := 1) (ykc_214 (e := (2, .aload_n kF0, 0)) rfl) rfl rfl ?_
            refine w_load (pc' := 62) (v := .int x) (m := 1) (ykc_214 (e := (2, .iload_n kF1, 0)) rfl) rfl rfl ?_
            refine w_alu (pc' := 63) (st' := [.int (Int32.ofInt 1), .int x, .ref 170]) (ykc_214 (e := (0, .iconst 1, 0)) rfl) rfl rfl ?_
            have e1669 : x + (Int32.ofInt 1) = zn (1) := (zaddN (a := 0) (b := 1) (by omega) c_2 (by omega)) 
            have te1669 := znt (k := 1) (by omega)
            refine w_alu (pc' := 64) (st' := [.int (zn (1)), .ref 170]) (ykc_214 (e := (0, .iadd, 0)) rfl) (by rw [← e1669]; rfl) rfl ?_
            refine w_cvD (as := [.ref 170, .int (zn (1))]) (r := []) (ykc_214 (e := (6, .invokevirtual 239, 0)) rfl) rfl rfl rfl rfl (ihr.2 _ 1 _ (a1 + 1) ns cs1 (zRF_S ((show zRF ph ph1667 from (zFr_trans (zFr_mono f1 (by simp) (by simp)) (zFr_mono f2 (by simp) (by simp))))) hS) (by first | exact znt (by decide) | omega) (by decide) ⟨hT2, (f2.1 170 17 (by decide) (by decide)).trans h171, zRc_F f2 (by simp) (by simp) hR1⟩ hns (by omega)) (fun v1670 ph1671 hv => ?_)
            rcases hv with ⟨f3, g3, ok3, a3, cs3, hz3, rfl, hT3, hR3, h173, ha3, hl3⟩
            · cases ok3 with
              | false =>
                show zW n D 214 Q 67 [some (.ref 170), some (.int x), some (.int (Int32.ofInt 1)), some (.int (zn k9))] [.int (zI false)] ph1671
                refine w_bne (ykc_214 (e := (4, .ifCond .ne 5, 72)) rfl) rfl (fun q => absurd q (by decide)) (fun b1672 => ?_)
                refine w_alu (pc' := 71) (st' := [.int (Int32.ofInt 0)]) (ykc_214 (e := (0, .iconst 0, 0)) rfl) rfl rfl ?_
                refine w_ret (v := (some (.int (Int32.ofInt 0)))) (ykc_214 (e := (7, .ireturn, 0)) rfl) zr_z ?_
                rw [hQ, zi0]
                obtain ⟨g9, hg9⟩ := hcon _ _ (zde_lf (r := 0) ⟨ha9, e7⟩ hz3)
                exact ⟨(show zRF ph ph1671 from (zFr_trans (zFr_trans (zFr_mono f1 (by simp) (by simp)) (zFr_mono f2 (by simp) (by simp))) (zFr_mono f3 (by simp) (by simp)))), g9, false, a3, cs3, hg9, rfl, hT3, hR3, fun h => absurd h (by decide), by omega, by omega⟩
              | true =>
                show zW n D 214 Q 67 [some (.ref 170), some (.int x), some (.int (Int32.ofInt 1)), some (.int (zn k9))] [.int (zI true)] ph1671
                have hb3 := hT3.2.2.1
                refine w_bne (ykc_214 (e := (4, .ifCond .ne 5, 72)) rfl) rfl (fun b1673 => ?_) (fun q => absurd q (by decide))
                refine w_load (pc' := 73) (v := .ref 170) (m := 1) (ykc_214 (e := (2, .aload_n kF0, 0)) rfl) rfl rfl ?_
                refine w_push (pc' := 76) (v := .int ((Int16.ofInt 2000).toInt32)) (m := 3) (ykc_214 (e := (1, .sipush 2000, 0)) rfl) rfl rfl ?_
                refine w_load (pc' := 77) (v := .int (zn k9)) (m := 1) (ykc_214 (e := (2, .iload_n kF3, 0)) rfl) rfl rfl ?_
                have e1674 : ((Int16.ofInt 2000).toInt32) + (zn k9) = zn (2000 + k9) := (zaddN (a := 2000) (b := k9) c_0 (znt (by omega)) (by omega)) 
                have te1674 := znt (k := 2000 + k9) (by omega)
                refine w_alu (pc' := 78) (st' := [.int (zn (2000 + k9)), .ref 170]) (ykc_214 (e := (0, .iadd, 0)) rfl) (by rw [← e1674]; rfl) rfl ?_
                refine w_load (pc' := 79) (v := .int x) (m := 1) (ykc_214 (e := (2, .iload_n kF1, 0)) rfl) rfl rfl ?_
                refine w_zne (ykc_214 (e := (4, .ifCond .ne 7, 86)) rfl) rfl (fun q => by exfalso; omega) (fun b1675 => ?_)
                refine w_alu (pc' := 83) (st' := [.int (Int32.ofInt 0), .int (zn (2000 + k9)), .ref 170]) (ykc_214 (e := (0, .iconst 0, 0)) rfl) rfl rfl ?_
                refine w_br (pc' := 96) (st' := [.int (Int32.ofInt 0), .int (zn (2000 + k9)), .ref 170]) (ykc_214 (e := (4, .goto 13, 96)) rfl) rfl ?_
                have e1676 : (zn (2000 + k9)) + (Int32.ofInt 0) = zn (2000 + k9 + 0) := (zaddN (a := 2000 + k9) (b := 0) (znt (by omega)) c_1 (by omega)) 
                have te1676 := znt (k := 2000 + k9 + 0) (by omega)
                refine w_alu (pc' := 97) (st' := [.int (zn (2000 + k9 + 0)), .ref 170]) (ykc_214 (e := (0, .iadd, 0)) rfl) (by rw [← e1676]; rfl) rfl ?_
                refine w_cv (as := [.ref 170, .int (zn (2000 + k9 + 0))]) (r := []) (ykc_214 (e := (6, .invokevirtual 233, 0)) rfl) rfl rfl rfl rfl (zm_codes (c := 2000 + k9 + 0) (zRF_S ((show zRF ph ph1671 from (zFr_trans (zFr_trans (zFr_mono f1 (by simp) (by simp)) (zFr_mono f2 (by simp) (by simp))) (zFr_mono f3 (by simp) (by simp))))) hS) hR3 (by first | rfl | (apply congrArg zn; omega)) (by omega) (by omega)) (fun v1677 ph1678 hv => ?_)
                obtain ⟨rfl, fc, hR4⟩ := hv
                show zW n D 214 Q 100 [some (.ref 170), some (.int x), some (.int (Int32.ofInt 1)), some (.int (zn k9))] [] ph1678
                refine w_load (pc' := 101) (v := .int x) (m := 1) (ykc_214 (e := (2, .iload_n kF1, 0)) rfl) rfl rfl ?_
                refine w_zle (ykc_214 (e := (4, .ifCond .le 7, 108)) rfl) rfl (fun b1679 => ?_) (fun q => by exfalso; omega)
                refine w_alu (pc' := 109) (st' := [.int (Int32.ofInt 0)]) (ykc_214 (e := (0, .iconst 0, 0)) rfl) rfl rfl ?_
                refine w_store (pc' := 110) (L' := [some (.ref 170), some (.int x), some (.int (Int32.ofInt 0)), some (.int (zn k9))]) (st' := []) (m := 1) (ykc_214 (e := (3, .istore_n kF2, 0)) rfl) rfl rfl ?_
                refine w_gb (ykc_214 (e := (4, .goto (-86), 24)) rfl) (fun k1680 hk1680 => ?_)
                have hab3 := hT3.2.2.1
                have hR5 : zRc ph1678 (zop (t a1) :: cs3) := by rw [e8, show 2000 + k9 = 2000 + k9 + 0 by omega]; exact hR4
                have hT5 := zTm_F fc (by simp) (by simp) (by simp) hT3
                have h175 := (fc.1 170 17 (by decide) (by decide)).trans (h173 rfl)
                have hl5 : (zop (t a1) :: cs3).length + a ≤ cs.length + a3 := by show cs3.length + 1 + a ≤ _; omega
                refine w_load (pc' := 25) (v := .int (Int32.ofInt 0)) (m := 1) (ykc_214 (e := (2, .iload_n kF2, 0)) rfl) rfl rfl ?_
                refine w_zeq (ykc_214 (e := (4, .ifCond .eq 88, 113)) rfl) rfl (fun b1681 => ?_) (fun q => absurd q (by decide))
                refine w_alu (pc' := 114) (st' := [.int (Int32.ofInt 1)]) (ykc_214 (e := (0, .iconst 1, 0)) rfl) rfl rfl ?_
                refine w_ret (v := (some (.int (Int32.ofInt 1)))) (ykc_214 (e := (7, .ireturn, 0)) rfl) zr_z ?_
                rw [hQ, zi1]
                obtain ⟨g9, hg9⟩ := hcon _ _ (zde_l1 ⟨ha9, e7⟩ hz3)
                exact ⟨(show zRF ph ph1678 from (zFr_trans (zFr_trans (zFr_trans (zFr_mono f1 (by simp) (by simp)) (zFr_mono f2 (by simp) (by simp))) (zFr_mono f3 (by simp) (by simp))) (zFr_mono fc (by simp) (by simp)))), g9, true, a3, _, hg9, rfl, hT5, hR5, fun _ => h175, by omega, hl5⟩
            
          · have tm1 : (Int32.ofInt (-1)).toInt = -1 := by decide
            have hno : ¬ (a1 < b ∧ zrk2 0 (t a1) = true) := fun q => by
              obtain ⟨k, hk, e⟩ := zrk_c.1 q.2
              exact hn9 q.1 k hk e.symm
            show zW n D 214 Q 53 [some (.ref 170), some (.int x), some (.int (Int32.ofInt 1)), o9] [.int (Int32.ofInt (-1))] ph1667
            refine w_store (pc' := 54) (L' := [some (.ref 170), some (.int x), some (.int (Int32.ofInt 1)), some (.int (Int32.ofInt (-1)))]) (st' := []) (m := 1) (ykc_214 (e := (3, .istore_n kF3, 0)) rfl) rfl rfl ?_
            refine w_load (pc' := 55) (v := .int (Int32.ofInt (-1))) (m := 1) (ykc_214 (e := (2, .iload_n kF3, 0)) rfl) rfl rfl ?_
            refine w_zge (ykc_214 (e := (4, .ifCond .ge 5, 60)) rfl) rfl (fun q => by exfalso; omega) (fun b1682 => ?_)
            refine w_alu (pc' := 59) (st' := [.int (Int32.ofInt 1)]) (ykc_214 (e := (0, .iconst 1, 0)) rfl) rfl rfl ?_
            refine w_ret (v := (some (.int (Int32.ofInt 1)))) (ykc_214 (e := (7, .ireturn, 0)) rfl) zr_z ?_
            rw [hQ, zi1]
            obtain ⟨g9, hg9⟩ := hcon _ _ (zde_l0 hno)
            exact ⟨(show zRF ph ph1667 from (zFr_trans (zFr_mono f1 (by simp) (by simp)) (zFr_mono f2 (by simp) (by simp)))), g9, true, a1, cs1, hg9, rfl, hT2, zRc_F f2 (by simp) (by simp) hR1, fun _ => (f2.1 170 17 (by decide) (by decide)).trans h171, ha1, hl1⟩
          
      exact hl9 n _ a1 cs1 _ f1 hT1 (h171 rfl) hR1 ha1 hl1 (fun g y h => zde_rt (by decide) hz1 h)
      
  
theorem zIHr_all {b ln : Nat} {t : Nat → Nat} (hb40 : b ≤ 40) : ∀ D, zIHr b ln t D
  | 0 => ⟨fun _ _ _ _ _ _ _ _ _ hr => hr.elim, fun _ _ _ _ _ _ _ _ _ _ _ _ _ hr => hr.elim⟩
  | D + 1 => by
    have ih := zIHr_all (ln := ln) (t := t) hb40 D
    refine ⟨fun ph a ns cs h1 h2 h3 h4 => zm_askD ih hb40 h1 h2 h3 h4, fun ph r x a ns cs h1 hx hr h2 h3 h4 => ?_⟩
    rcases (show r = 0 ∨ r = 1 ∨ r = 2 ∨ r = 3 by omega) with e | e | e | e <;> subst e
    · exact zm_rankD0 ih hb40 h1 h2 h3 h4 hx
    · exact zm_rankD1 ih hb40 h1 h2 h3 h4 hx
    · exact zm_rankD2 ih hb40 h1 h2 h3 h4 hx
    · exact zm_rankD3 ih hb40 h1 h2 h3 h4 hx
theorem zm_rank0 {b ln : Nat} {t : Nat → Nat} (hb40 : b ≤ 40) {ph : pm_H} {x : Int32} (hS : zSh ph) (hx : x.toInt = ((0 : Nat) : Int)) (hp : zRp b ln t ph 0 0 []) : zM 214 [.ref 170, .int x] ph (zRq b ln t 0 0 0 [] ph) := fun D r hr => (zIHr_all hb40 D).2 ph 0 x 0 0 [] hS hx (by decide) hp (by decide) (by decide) r hr
/-- what the reference's reading of a RULE comes to: well or not, up to where, codes -/
def zRu (ln : Nat) (t : Nat → Nat) (ok : Bool) (a2 : Nat) (cs2 : List Nat) : Prop := (ln = 0 ∧ ok = true ∧ a2 = 0 ∧ cs2 = []) ∨ (0 < ln ∧ a2 ≤ min ln 40 ∧ ∃ f, zde (min ln 40) t f 0 0 0 [] = some (ok, a2, cs2))
theorem zm_beginsN {ph : pm_H} {ln c : Nat} {t : Nat → Nat} {y : Int32} (hS : zSh ph) (hn : zc ph 170 14 = some (.int (zn ln))) (hn80 : ln ≤ 80) (gt : ∀ i, i < ln → zc ph 176 i = some (.int (zn (t i))) ∧ t i < 256) (hy : y.toInt = (c : Int)) (hc : c ≤ 80) : zM 195 [.ref 170, .int y] ph (fun v q => v = some (.int (zn ln)) ∧ zFr [] [(170, 14), (170, 15), (170, 16), (170, 17)] ph q ∧ zc q 170 14 = some (.int (zn 0)) ∧ zc q 170 17 = some (.int (zn 0)) ∧ zTm q 0 (min ln c) ln t) := by
  obtain ⟨Q, hQ⟩ : ∃ Q : Option Value → pm_H → Prop, Q = (fun v q => v = some (.int (zn ln)) ∧ zFr [] [(170, 14), (170, 15), (170, 16), (170, 17)] ph q ∧ zc q 170 14 = some (.int (zn 0)) ∧ zc q 170 17 = some (.int (zn 0)) ∧ zTm q 0 (min ln c) ln t) := ⟨_, rfl⟩
  rw [← hQ]
  refine zM_mk fun n D => ?_
  show zW n D 195 Q 0 [some (.ref 170), some (.int y), none] [] ph
  have c_0 : (Int32.ofInt 0).toInt = 0 := by decide
  have tn := znt (k := ln) (by omega)
  refine w_load (pc' := 1) (v := .ref 170) (m := 1) (ykc_195 (e := (2, .aload_n kF0, 0)) rfl) rfl rfl ?_
  refine w_gf (pc' := 4) (v := .int (zn ln)) (ykc_195 (e := (5, .getfield 136, 0)) rfl) rfl hn rfl ?_
  refine w_store (pc' := 5) (L' := [some (.ref 170), some (.int y), some (.int (zn ln))]) (st' := []) (m := 1) (ykc_195 (e := (3, .istore_n kF2, 0)) rfl) rfl rfl ?_
  refine w_load (pc' := 6) (v := .ref 170) (m := 1) (ykc_195 (e := (2, .aload_n kF0, 0)) rfl) rfl rfl ?_
  refine w_alu (pc' := 7) (st' := [.int (Int32.ofInt 0), .ref 170]) (ykc_195 (e := (0, .iconst 0, 0)) rfl) rfl rfl ?_
  refine w_pf (pc' := 10) (ykc_195 (e := (5, .putfield 136, 0)) rfl) rfl rfl (fun ph1684 u1683 => ?_)
  refine w_load (pc' := 11) (v := .ref 170) (m := 1) (ykc_195 (e := (2, .aload_n kF0, 0)) rfl) rfl rfl ?_
  refine w_alu (pc' := 12) (st' := [.int (Int32.ofInt 0), .ref 170]) (ykc_195 (e := (0, .iconst 0, 0)) rfl) rfl rfl ?_
  refine w_pf (pc' := 15) (ykc_195 (e := (5, .putfield 139, 0)) rfl) rfl rfl (fun ph1686 u1685 => ?_)
  refine w_load (pc' := 16) (v := .ref 170) (m := 1) (ykc_195 (e := (2, .aload_n kF0, 0)) rfl) rfl rfl ?_
  refine w_alu (pc' := 17) (st' := [.int (Int32.ofInt 0), .ref 170]) (ykc_195 (e := (0, .iconst 0, 0)) rfl) rfl rfl ?_
  refine w_pf (pc' := 20) (ykc_195 (e := (5, .putfield 142, 0)) rfl) rfl rfl (fun ph1688 u1687 => ?_)
  refine w_load (pc' := 21) (v := .ref 170) (m := 1) (ykc_195 (e := (2, .aload_n kF0, 0)) rfl) rfl rfl ?_
  refine w_load (pc' := 22) (v := .int (zn ln)) (m := 1) (ykc_195 (e := (2, .iload_n kF2, 0)) rfl) rfl rfl ?_
  refine w_load (pc' := 23) (v := .int y) (m := 1) (ykc_195 (e := (2, .iload_n kF1, 0)) rfl) rfl rfl ?_
  obtain ⟨z1689, e_z1689⟩ : ∃ zq : Int32, (if y < (zn ln) then y else (zn ln)) = zq := ⟨_, rfl⟩
  have h_z1689 := zminI e_z1689
  have n_z1689 : z1689.toInt = ((min ln c : Nat) : Int) := by omega
  refine w_mem1 (pc' := 26) (m := 3) (st' := [.int z1689, .ref 170]) (ph' := ph1688) (ykc_195 (e := (5, .invokestatic 145, 0)) rfl) (by rw [← e_z1689]; rfl) rfl ?_
  refine w_pf (pc' := 29) (ykc_195 (e := (5, .putfield 151, 0)) rfl) rfl rfl (fun ph1691 u1690 => ?_)
  refine w_load (pc' := 30) (v := .int (zn ln)) (m := 1) (ykc_195 (e := (2, .iload_n kF2, 0)) rfl) rfl rfl ?_
  refine w_ret (v := (some (.int (zn ln)))) (ykc_195 (e := (7, .ireturn, 0)) rfl) (zr_v rfl) ?_
  rw [hQ]
  have ez : z1689 = zn (min ln c) := zn_of (by omega)
  have f4 : zFr [] [(170, 14), (170, 15), (170, 16), (170, 17)] ph ph1691 := zFr_trans (zFr_st u1683 (Or.inr (by simp))) (zFr_trans (zFr_st u1685 (Or.inr (by simp))) (zFr_trans (zFr_st u1687 (Or.inr (by simp))) (zFr_st u1690 (Or.inr (by simp)))))
  exact ⟨rfl, f4, ((u1690.2.1 170 14 (fun q => absurd q.2 (by decide))).trans ((u1687.2.1 170 14 (fun q => absurd q.2 (by decide))).trans ((u1685.2.1 170 14 (fun q => absurd q.2 (by decide))).trans u1683.1))), ((u1690.2.1 170 17 (fun q => absurd q.2 (by decide))).trans u1687.1), ((u1690.2.1 170 15 (fun q => absurd q.2 (by decide))).trans ((u1687.2.1 170 15 (fun q => absurd q.2 (by decide))).trans u1685.1)), by rw [← ez]; exact u1690.1, Nat.zero_le _, Nat.min_le_left _ _, hn80, fun i hi => ⟨(f4.1 _ _ (by decide) (by simp)).trans (gt i hi).1, (gt i hi).2⟩⟩
theorem zm_rulesRead {ph : pm_H} {ln : Nat} {t : Nat → Nat} (hS : zSh ph) (hn : zc ph 170 14 = some (.int (zn ln))) (hn80 : ln ≤ 80) (gt : ∀ i, i < ln → zc ph 176 i = some (.int (zn (t i))) ∧ t i < 256) : zM 215 [.ref 170] ph (fun v0 q => zFr [180] [(170, 14), (170, 15), (170, 16), (170, 17), (170, 24)] ph q ∧ zc q 170 14 = some (.int (zn 0)) ∧ ∃ (ok : Bool) (a2 : Nat) (cs2 : List Nat) (z : Int32), zRu ln t ok a2 cs2 ∧ zRc q cs2 ∧ cs2.length ≤ 40 ∧ v0 = some (.int z) ∧ z.toInt = zFo ln 40 a2 (min ln 40) ok) := by
  obtain ⟨Q, hQ⟩ : ∃ Q : Option Value → pm_H → Prop, Q = (fun v0 q => zFr [180] [(170, 14), (170, 15), (170, 16), (170, 17), (170, 24)] ph q ∧ zc q 170 14 = some (.int (zn 0)) ∧ ∃ (ok : Bool) (a2 : Nat) (cs2 : List Nat) (z : Int32), zRu ln t ok a2 cs2 ∧ zRc q cs2 ∧ cs2.length ≤ 40 ∧ v0 = some (.int z) ∧ z.toInt = zFo ln 40 a2 (min ln 40) ok) := ⟨_, rfl⟩
  rw [← hQ]
  refine zM_mk fun n D => ?_
  show zW n D 215 Q 0 [some (.ref 170), none, none] [] ph
  have c_0 : ((Int8.ofInt 40).toInt32).toInt = 40 := by decide
  have c_1 : (Int32.ofInt 0).toInt = 0 := by decide
  have c_2 : (Int32.ofInt 1).toInt = 1 := by decide
  have tn := znt (k := ln) (by omega)
  have tz0 := znt (k := 0) (by omega)
  refine w_load (pc' := 1) (v := .ref 170) (m := 1) (ykc_215 (e := (2, .aload_n kF0, 0)) rfl) rfl rfl ?_
  refine w_push (pc' := 3) (v := .int ((Int8.ofInt 40).toInt32)) (m := 2) (ykc_215 (e := (1, .bipush 40, 0)) rfl) rfl rfl ?_
  refine w_cv (as := [.ref 170, .int ((Int8.ofInt 40).toInt32)]) (r := []) (ykc_215 (e := (6, .invokevirtual 175, 0)) rfl) rfl rfl rfl rfl (zm_beginsN (c := 40) hS hn hn80 gt (by decide) (by decide)) (fun v1692 ph1693 hv => ?_)
  obtain ⟨rfl, f1, h14, h17, hT⟩ := hv
  show zW n D 215 Q 6 [some (.ref 170), none, none] [.int (zn ln)] ph1693
  refine w_store (pc' := 7) (L' := [some (.ref 170), some (.int (zn ln)), none]) (st' := []) (m := 1) (ykc_215 (e := (3, .istore_n kF1, 0)) rfl) rfl rfl ?_
  refine w_load (pc' := 8) (v := .ref 170) (m := 1) (ykc_215 (e := (2, .aload_n kF0, 0)) rfl) rfl rfl ?_
  refine w_alu (pc' := 9) (st' := [.int (Int32.ofInt 0), .ref 170]) (ykc_215 (e := (0, .iconst 0, 0)) rfl) rfl rfl ?_
  refine w_pf (pc' := 12) (ykc_215 (e := (5, .putfield 227, 0)) rfl) rfl rfl (fun ph1695 u1694 => ?_)
  have fu : zFr [] [(170, 24)] _ ph1695 := zFr_st u1694 (Or.inr (by simp))
  have hT1 := zTm_F fu (by simp) (by simp) (by simp) hT
  have hR1 : zRc ph1695 [] := ⟨u1694.1, fun i c h => by cases h⟩
  have h14a := (fu.1 170 14 (by decide) (by decide)).trans h14
  have h17a := (fu.1 170 17 (by decide) (by decide)).trans h17
  refine w_load (pc' := 13) (v := .int (zn ln)) (m := 1) (ykc_215 (e := (2, .iload_n kF1, 0)) rfl) rfl rfl ?_
  refine w_zeq (ykc_215 (e := (4, .ifCond .eq 11, 24)) rfl) rfl (fun b1696 => ?_) (fun b1696 => ?_)
  · refine w_alu (pc' := 25) (st' := [.int (Int32.ofInt 1)]) (ykc_215 (e := (0, .iconst 1, 0)) rfl) rfl rfl ?_
    refine w_br (pc' := 29) (st' := [.int (Int32.ofInt 1)]) (ykc_215 (e := (4, .goto 4, 29)) rfl) rfl ?_
    refine w_store (pc' := 30) (L' := [some (.ref 170), some (.int (zn ln)), some (.int (Int32.ofInt 1))]) (st' := []) (m := 1) (ykc_215 (e := (3, .istore_n kF2, 0)) rfl) rfl rfl ?_
    refine w_load (pc' := 31) (v := .ref 170) (m := 1) (ykc_215 (e := (2, .aload_n kF0, 0)) rfl) rfl rfl ?_
    refine w_load (pc' := 32) (v := .int (zn ln)) (m := 1) (ykc_215 (e := (2, .iload_n kF1, 0)) rfl) rfl rfl ?_
    refine w_push (pc' := 34) (v := .int ((Int8.ofInt 40).toInt32)) (m := 2) (ykc_215 (e := (1, .bipush 40, 0)) rfl) rfl rfl ?_
    refine w_load (pc' := 35) (v := .int (Int32.ofInt 1)) (m := 1) (ykc_215 (e := (2, .iload_n kF2, 0)) rfl) rfl rfl ?_
    refine w_cv (as := [.ref 170, .int (zn ln), .int ((Int8.ofInt 40).toInt32), .int (Int32.ofInt 1)]) (r := []) (ykc_215 (e := (6, .invokevirtual 213, 0)) rfl) rfl rfl rfl rfl (zm_fault (is := true) (n9 := ln) (c := 40) (zSh_F (show zFr [180] [(170, 14), (170, 15), (170, 16), (170, 17), (170, 24)] ph ph1695 from (zFr_trans (zFr_mono f1 (by simp) (by simp)) (zFr_st u1694 (Or.inr (by simp))))) (by decide +kernel) hS) hT1 (by omega) (by decide)) (fun v1697 ph1698 hv => ?_)
    rcases hv with ⟨rfl, z9, rfl, hz9⟩
    · show zW n D 215 Q 38 [some (.ref 170), some (.int (zn ln)), some (.int (Int32.ofInt 1))] [.int z9] ph1695
      refine w_ret (v := (some (.int z9))) (ykc_215 (e := (7, .ireturn, 0)) rfl) (zr_v rfl) ?_
      rw [hQ]
      exact ⟨(show zFr [180] [(170, 14), (170, 15), (170, 16), (170, 17), (170, 24)] ph ph1695 from (zFr_trans (zFr_mono f1 (by simp) (by simp)) (zFr_st u1694 (Or.inr (by simp))))), h14a, true, 0, [], _, Or.inl ⟨by omega, rfl, rfl, rfl⟩, hR1, by decide, rfl, hz9⟩
    
  · refine w_load (pc' := 17) (v := .ref 170) (m := 1) (ykc_215 (e := (2, .aload_n kF0, 0)) rfl) rfl rfl ?_
    refine w_alu (pc' := 18) (st' := [.int (Int32.ofInt 0), .ref 170]) (ykc_215 (e := (0, .iconst 0, 0)) rfl) rfl rfl ?_
    refine w_cv (as := [.ref 170, .int (Int32.ofInt 0)]) (r := []) (ykc_215 (e := (6, .invokevirtual 239, 0)) rfl) rfl rfl rfl rfl (zm_rank0 (b := min ln 40) (ln := ln) (t := t) (by omega) (zSh_F (show zFr [180] [(170, 14), (170, 15), (170, 16), (170, 17), (170, 24)] ph ph1695 from (zFr_trans (zFr_mono f1 (by simp) (by simp)) (zFr_st u1694 (Or.inr (by simp))))) (by decide +kernel) hS) (by decide) ⟨hT1, h17a, hR1⟩) (fun v1699 ph1700 hv => ?_)
    rcases hv with ⟨f2, g9, ok, a2, cs2, hz, rfl, hT2, hR2, -, ha2, hl2⟩
    · cases ok with
      | false =>
        show zW n D 215 Q 21 [some (.ref 170), some (.int (zn ln)), none] [.int (zI false)] ph1700
        refine w_beq (ykc_215 (e := (4, .ifCond .eq 7, 28)) rfl) rfl (fun b1701 => ?_) (fun q => absurd q (by decide))
        refine w_alu (pc' := 29) (st' := [.int (Int32.ofInt 0)]) (ykc_215 (e := (0, .iconst 0, 0)) rfl) rfl rfl ?_
        refine w_store (pc' := 30) (L' := [some (.ref 170), some (.int (zn ln)), some (.int (Int32.ofInt 0))]) (st' := []) (m := 1) (ykc_215 (e := (3, .istore_n kF2, 0)) rfl) rfl rfl ?_
        refine w_load (pc' := 31) (v := .ref 170) (m := 1) (ykc_215 (e := (2, .aload_n kF0, 0)) rfl) rfl rfl ?_
        refine w_load (pc' := 32) (v := .int (zn ln)) (m := 1) (ykc_215 (e := (2, .iload_n kF1, 0)) rfl) rfl rfl ?_
        refine w_push (pc' := 34) (v := .int ((Int8.ofInt 40).toInt32)) (m := 2) (ykc_215 (e := (1, .bipush 40, 0)) rfl) rfl rfl ?_
        refine w_load (pc' := 35) (v := .int (Int32.ofInt 0)) (m := 1) (ykc_215 (e := (2, .iload_n kF2, 0)) rfl) rfl rfl ?_
        have hb2 := hT2.2.2.1
        have hl3 : cs2.length + 0 ≤ 0 + a2 := hl2
        refine w_cv (as := [.ref 170, .int (zn ln), .int ((Int8.ofInt 40).toInt32), .int (Int32.ofInt 0)]) (r := []) (ykc_215 (e := (6, .invokevirtual 213, 0)) rfl) rfl rfl rfl rfl (zm_fault (is := false) (n9 := ln) (c := 40) (zSh_F (show zFr [180] [(170, 14), (170, 15), (170, 16), (170, 17), (170, 24)] ph ph1700 from (zFr_trans (zFr_trans (zFr_mono f1 (by simp) (by simp)) (zFr_st u1694 (Or.inr (by simp)))) (zFr_mono f2 (by simp) (by simp)))) (by decide +kernel) hS) hT2 (by omega) (by decide)) (fun v1702 ph1703 hv => ?_)
        rcases hv with ⟨rfl, z9, rfl, hz9⟩
        · show zW n D 215 Q 38 [some (.ref 170), some (.int (zn ln)), some (.int (Int32.ofInt 0))] [.int z9] ph1700
          refine w_ret (v := (some (.int z9))) (ykc_215 (e := (7, .ireturn, 0)) rfl) (zr_v rfl) ?_
          rw [hQ]
          exact ⟨(show zFr [180] [(170, 14), (170, 15), (170, 16), (170, 17), (170, 24)] ph ph1700 from (zFr_trans (zFr_trans (zFr_mono f1 (by simp) (by simp)) (zFr_st u1694 (Or.inr (by simp)))) (zFr_mono f2 (by simp) (by simp)))), (f2.1 170 14 (by decide) (by decide)).trans h14a, false, a2, cs2, _, Or.inr ⟨by omega, hb2, g9, hz⟩, hR2, by omega, rfl, hz9⟩
        
      | true =>
        show zW n D 215 Q 21 [some (.ref 170), some (.int (zn ln)), none] [.int (zI true)] ph1700
        refine w_beq (ykc_215 (e := (4, .ifCond .eq 7, 28)) rfl) rfl (fun q => absurd q (by decide)) (fun b1704 => ?_)
        refine w_alu (pc' := 25) (st' := [.int (Int32.ofInt 1)]) (ykc_215 (e := (0, .iconst 1, 0)) rfl) rfl rfl ?_
        refine w_br (pc' := 29) (st' := [.int (Int32.ofInt 1)]) (ykc_215 (e := (4, .goto 4, 29)) rfl) rfl ?_
        refine w_store (pc' := 30) (L' := [some (.ref 170), some (.int (zn ln)), some (.int (Int32.ofInt 1))]) (st' := []) (m := 1) (ykc_215 (e := (3, .istore_n kF2, 0)) rfl) rfl rfl ?_
        refine w_load (pc' := 31) (v := .ref 170) (m := 1) (ykc_215 (e := (2, .aload_n kF0, 0)) rfl) rfl rfl ?_
        refine w_load (pc' := 32) (v := .int (zn ln)) (m := 1) (ykc_215 (e := (2, .iload_n kF1, 0)) rfl) rfl rfl ?_
        refine w_push (pc' := 34) (v := .int ((Int8.ofInt 40).toInt32)) (m := 2) (ykc_215 (e := (1, .bipush 40, 0)) rfl) rfl rfl ?_
        refine w_load (pc' := 35) (v := .int (Int32.ofInt 1)) (m := 1) (ykc_215 (e := (2, .iload_n kF2, 0)) rfl) rfl rfl ?_
        have hb2 := hT2.2.2.1
        have hl3 : cs2.length + 0 ≤ 0 + a2 := hl2
        refine w_cv (as := [.ref 170, .int (zn ln), .int ((Int8.ofInt 40).toInt32), .int (Int32.ofInt 1)]) (r := []) (ykc_215 (e := (6, .invokevirtual 213, 0)) rfl) rfl rfl rfl rfl (zm_fault (is := true) (n9 := ln) (c := 40) (zSh_F (show zFr [180] [(170, 14), (170, 15), (170, 16), (170, 17), (170, 24)] ph ph1700 from (zFr_trans (zFr_trans (zFr_mono f1 (by simp) (by simp)) (zFr_st u1694 (Or.inr (by simp)))) (zFr_mono f2 (by simp) (by simp)))) (by decide +kernel) hS) hT2 (by omega) (by decide)) (fun v1705 ph1706 hv => ?_)
        rcases hv with ⟨rfl, z9, rfl, hz9⟩
        · show zW n D 215 Q 38 [some (.ref 170), some (.int (zn ln)), some (.int (Int32.ofInt 1))] [.int z9] ph1700
          refine w_ret (v := (some (.int z9))) (ykc_215 (e := (7, .ireturn, 0)) rfl) (zr_v rfl) ?_
          rw [hQ]
          exact ⟨(show zFr [180] [(170, 14), (170, 15), (170, 16), (170, 17), (170, 24)] ph ph1700 from (zFr_trans (zFr_trans (zFr_mono f1 (by simp) (by simp)) (zFr_st u1694 (Or.inr (by simp)))) (zFr_mono f2 (by simp) (by simp)))), (f2.1 170 14 (by decide) (by decide)).trans h14a, true, a2, cs2, _, Or.inr ⟨by omega, hb2, g9, hz⟩, hR2, by omega, rfl, hz9⟩
        
    
theorem zRc_g {ph : pm_H} {cs : List Nat} (h : zRc ph cs) {i : Nat} (hi : i < cs.length) : zc ph 180 i = some (.int (zn (cs.reverse.getD i 0))) ∧ cs.reverse.getD i 0 ≤ 3000 := by
  have e : cs.reverse.getD i 0 = cs[cs.length - 1 - i]'(by omega) := by
    rw [List.getD_eq_getElem?_getD, List.getElem?_reverse hi, List.getElem?_eq_getElem (by omega)]
    rfl
  obtain ⟨g1, g2⟩ := h.2 (cs.length - 1 - i) _ (List.getElem?_eq_getElem (by omega))
  rw [show cs.length - 1 - (cs.length - 1 - i) = i by omega] at g1
  rw [e]
  exact ⟨g1, g2⟩
theorem zm_laysCode {ph : pm_H} {cs : List Nat} {y : Int32} (hS : zSh ph) (hR : zRc ph cs) (hy : y = zn cs.length) (hl : cs.length ≤ 40) : zM 216 [.ref 170, .ref 180, .int y] ph (fun v0 q => v0 = none ∧ zFr [179] [(170, 23)] ph q ∧ zc q 170 23 = some (.int (zn cs.length)) ∧ ∀ i, i < cs.length → zc q 179 i = some (.int (zn (cs.reverse.getD i 0))) ∧ cs.reverse.getD i 0 ≤ 3000) := by
  obtain ⟨Q, hQ⟩ : ∃ Q : Option Value → pm_H → Prop, Q = (fun v0 q => v0 = none ∧ zFr [179] [(170, 23)] ph q ∧ zc q 170 23 = some (.int (zn cs.length)) ∧ ∀ i, i < cs.length → zc q 179 i = some (.int (zn (cs.reverse.getD i 0))) ∧ cs.reverse.getD i 0 ≤ 3000) := ⟨_, rfl⟩
  rw [← hQ]
  refine zM_mk fun n D => ?_
  show zW n D 216 Q 0 [some (.ref 170), some (.ref 180), some (.int y), none] [] ph
  have c_0 : (Int32.ofInt 0).toInt = 0 := by decide
  have c_1 : (Int32.ofInt 1).toInt = 1 := by decide
  subst hy
  have tl := znt (k := cs.length) (by omega)
  refine w_load (pc' := 1) (v := .ref 170) (m := 1) (ykc_216 (e := (2, .aload_n kF0, 0)) rfl) rfl rfl ?_
  refine w_load (pc' := 2) (v := .int (zn cs.length)) (m := 1) (ykc_216 (e := (2, .iload_n kF2, 0)) rfl) rfl rfl ?_
  refine w_pf (pc' := 5) (ykc_216 (e := (5, .putfield 248, 0)) rfl) rfl rfl (fun ph1708 u1707 => ?_)
  refine w_alu (pc' := 6) (st' := [.int (Int32.ofInt 0)]) (ykc_216 (e := (0, .iconst 0, 0)) rfl) rfl rfl ?_
  refine w_store (pc' := 7) (L' := [some (.ref 170), some (.ref 180), some (.int (zn cs.length)), some (.int (Int32.ofInt 0))]) (st' := []) (m := 1) (ykc_216 (e := (3, .istore_n kF3, 0)) rfl) rfl rfl ?_
  have hl9 : ∀ (n : Nat), ∀ (k : Nat) (p : pm_H), (k ≤ cs.length) → (zFr [179] [] ph1708 p) → (∀ i, i < k → zc p 179 i = some (.int (zn (cs.reverse.getD i 0)))) → zW n D 216 Q 7 [some (.ref 170), some (.ref 180), some (.int (zn cs.length)), some (.int (zn k))] [] p := by
    intro n
    induction n using Nat.strongRecOn with
    | ind n ih =>
      intro k p hk hf hg
      have tk := znt (k := k) (by omega)
      have fz : zFr [179] [(170, 23)] ph p := zFr_trans (zFr_st u1707 (Or.inr (by simp))) (zFr_mono hf (by simp) (by simp))
      have hx9 : k < cs.length → zc p 180 k = some (.int (zn (cs.reverse.getD k 0))) := fun h => (fz.1 180 k (by simp) (by simp)).trans (zRc_g hR h).1
      refine w_load (pc' := 8) (v := .int (zn k)) (m := 1) (ykc_216 (e := (2, .iload_n kF3, 0)) rfl) rfl rfl ?_
      refine w_load (pc' := 9) (v := .int (zn cs.length)) (m := 1) (ykc_216 (e := (2, .iload_n kF2, 0)) rfl) rfl rfl ?_
      refine w_ige (ykc_216 (e := (4, .if_icmp .ge 18, 27)) rfl) rfl (fun b1709 => ?_) (fun b1709 => ?_)
      · refine w_ret (v := none) (ykc_216 (e := (7, .return_, 0)) rfl) (zr_v rfl) ?_
        rw [hQ]
        have ek : k = cs.length := by omega
        subst ek
        exact ⟨rfl, fz, (hf.1 170 23 (by decide) (by decide)).trans u1707.1, fun i hi => ⟨hg i hi, (zRc_g hR hi).2⟩⟩
      · refine w_load (pc' := 13) (v := .ref 170) (m := 1) (ykc_216 (e := (2, .aload_n kF0, 0)) rfl) rfl rfl ?_
        refine w_gf (pc' := 16) (v := .ref 179) (ykc_216 (e := (5, .getfield 56, 0)) rfl) rfl ((hf.1 170 21 (by decide) (by decide)).trans ((u1707.2.1 170 21 (fun q => absurd q.2 (by decide))).trans (zsg hS zs_170_21))) rfl ?_
        refine w_load (pc' := 17) (v := .int (zn k)) (m := 1) (ykc_216 (e := (2, .iload_n kF3, 0)) rfl) rfl rfl ?_
        refine w_load (pc' := 18) (v := .ref 180) (m := 1) (ykc_216 (e := (2, .aload_n kF1, 0)) rfl) rfl rfl ?_
        refine w_load (pc' := 19) (v := .int (zn k)) (m := 1) (ykc_216 (e := (2, .iload_n kF3, 0)) rfl) rfl rfl ?_
        refine w_ialk (pc' := 20) (k := k) (ykc_216 (e := (5, .iaload, 0)) rfl) (hx9 (by omega)) (by omega) rfl ?_
        refine w_ias (pc' := 21) (k := k) (ykc_216 (e := (5, .iastore, 0)) rfl) (by omega) rfl (fun ph1711 u1710 => ?_)
        have e1712 : (zn k) + Int32.ofInt 1 = zn (k + 1) := (zaddN (a := k) (b := 1) (znt (by omega)) c_1 (by omega))
        have te1712 := znt (k := k + 1) (by omega)
        refine w_store (pc' := 24) (L' := [some (.ref 170), some (.ref 180), some (.int (zn cs.length)), some (.int (zn (k + 1)))]) (st' := []) (m := 3) (ykc_216 (e := (3, .iinc 3 1, 0)) rfl) (by rw [← e1712]; rfl) rfl ?_
        refine w_gb (ykc_216 (e := (4, .goto (-17), 7)) rfl) (fun k1713 hk1713 => ?_)
        exact ih k1713 hk1713 (k + 1) _ (by omega) (zFr_add hf u1710 (Or.inl (by simp))) (fun i hi => by
          by_cases e : i = k
          · subst e; exact u1710.1
          · exact (u1710.2.1 179 i (fun q => e q.2)).trans (hg i (by omega)))
  exact hl9 n 0 _ (Nat.zero_le _) zFr_refl (fun i hi => absurd hi (Nat.not_lt_zero i))
