/-! adds of the reference, by hand, printed by wip/x/h_vadds.py -/
set_option maxRecDepth 6000 in
theorem x15 : ((Int8.ofInt 15).toInt32).toInt = 15 := by decide
set_option maxRecDepth 6000 in
theorem x615 : ((Int16.ofInt 615).toInt32).toInt = 615 := by decide
set_option maxRecDepth 6000 in
theorem xH_eq {X : xD} {K : pm_K} {m : Int} {w : Nat} {ph ph' : pm_H} (h : ∀ a, pm_at ph' a = pm_at ph a) (hP : xH X K m w ph) : xH X K m w ph' := fun a i ho => by
  obtain ⟨s, t, h1, h2, h3⟩ := hP a i ho
  exact ⟨s, t, h1, h2, xcG_at (h a).symm h3⟩
section
variable {j pc pc' aux D : Nat} {Q : Option Value → pm_H → Prop} {L : List (Option Value)} {st : List Value} {ph : pm_H} {v9 : Value}
set_option maxRecDepth 6000 in
theorem gt_gfraw {i k : Nat} {v : Value} {fl : List Value} (hc : pm_code kK j pc = some (5, .getfield i, aux)) (hl : pm_lnk kK (pm_own kK j) i = some (6, 13, k, v9)) (hat : pm_at ph 170 = some (.inr (13, fl))) (hv : fl[k]? = some v) (hp : pc + 3 = pc') (kk : xGT kK D j Q (pc', L, v :: st, ph, 0, 0)) : xGT kK D j Q (pc, L, .ref 170 :: st, ph, 0, 0) :=
  gt_mem hc (by
    unfold pm_mem
    have e : Nat.beq 13 13 = true := rfl
    simp only [hl, hat, e, hv, cond_true]) hp kk
set_option maxRecDepth 6000 in
theorem gt_pfraw {i k : Nat} {y : Int32} {fl : List Value} (hc : pm_code kK j pc = some (5, .putfield i, aux)) (hl : pm_lnk kK (pm_own kK j) i = some (6, 13, k, v9)) (hat : pm_at ph 170 = some (.inr (13, fl))) (hty : pm_fty kK 13 k = .int) (hk : k < fl.length) (hp : pc + 3 = pc') (kk : ∀ ph', pm_at ph' 170 = some (.inr (13, fl.set k (.int y))) → (∀ a, a ≠ 170 → pm_at ph' a = pm_at ph a) → xGT kK D j Q (pc', L, st, ph', 0, 0)) : xGT kK D j Q (pc, L, .int y :: .ref 170 :: st, ph, 0, 0) := by
  have hbl : Nat.blt k fl.length = true := Nat.ble_eq_true_of_le hk
  refine gt_mem (ph' := ph.set 170 (.inr (13, fl.set k (.int y)))) hc ?_ hp (kk _ (xat_self hat) (fun a h => xat_ne h))
  unfold pm_mem
  have e : Nat.beq 13 13 = true := rfl
  have e2 : pm_fit .int (.int y) = true := rfl
  simp only [hl, hat, e, hty, e2, hbl, Bool.and_self, cond_true]
set_option maxRecDepth 6000 in
theorem gt_iasraw {A : Nat} {x y : Int32} {l : List Int32} (hc : pm_code kK j pc = some (5, .iastore, aux)) (hat : pm_at ph A = some (.inl (0, .inl l))) (h0 : 0 ≤ x.toInt) (hlt : x.toInt.toNat < l.length) (hp : pc + 1 = pc') (kk : ∀ ph', pm_at ph' A = some (.inl (0, .inl (l.set x.toInt.toNat y))) → (∀ a, a ≠ A → pm_at ph' a = pm_at ph a) → xGT kK D j Q (pc', L, st, ph', 0, 0)) : xGT kK D j Q (pc, L, .int y :: .int x :: .ref A :: st, ph, 0, 0) := by
  refine gt_mem (ph' := ph.set A (.inl (0, .inl (l.set x.toInt.toNat y)))) hc ?_ hp (kk _ (xat_self hat) (fun a h => xat_ne h))
  unfold pm_mem
  simp only [hat, xup_eq h0 hlt]
end

set_option maxRecDepth 6000 in
theorem xadd_loop {D : Nat} {Q : Option Value → pm_H → Prop} {fl : List Value} {y : Int32} {l0 : List Int32} {phS : pm_H} (hl0 : l0.length = 656) (h28 : fl[28]? = some (.ref 183)) (hQ : ∀ (ph' : pm_H) (l : List Int32) (x : Int32), pm_at ph' 170 = some (.inr (13, fl)) → pm_at ph' 183 = some (.inl (0, .inl l)) → l.length = 656 → (∀ k, l[k]? = if k < 615 then l0[k + 41]? else l0[k]?) → (∀ a, a ≠ 183 → pm_at ph' a = pm_at phS a) → xGT kK D 239 Q (49, [some (.ref 170), some (.int y), some (.int x)], [], ph', 0, 0)) : ∀ (s i : Nat) (x : Int32) (l : List Int32) (ph : pm_H), 615 - i < s → i ≤ 615 → x.toInt = (i : Int) → pm_at ph 170 = some (.inr (13, fl)) → pm_at ph 183 = some (.inl (0, .inl l)) → l.length = 656 → (∀ k, l[k]? = if k < i then l0[k + 41]? else l0[k]?) → (∀ a, a ≠ 183 → pm_at ph a = pm_at phS a) → xGT kK D 239 Q (21, [some (.ref 170), some (.int y), some (.int x)], [], ph, 0, 0) := by
  intro s
  induction s with
  | zero => intro i x l ph h; omega
  | succ s ih =>
    intro i x l ph hs hi hx hM hU hlen hel hO
    by_cases hin : i = 615
    · subst hin
      refine gt_load (v := .int x) (n := 1) (ykc_239 (e := (2, .iload_n kF2, 0)) rfl) rfl rfl ?_
      refine gt_push (v := .int ((Int16.ofInt 615).toInt32)) (n := 3) (ykc_239 (e := (1, .sipush 615, 0)) rfl) rfl rfl ?_
      refine gt_ige_t (ykc_239 (e := (4, .if_icmp .ge 24, 49)) rfl) (by rw [x615]; omega) ?_
      exact hQ ph l x hM hU hlen hel hO
    · obtain ⟨e0, he0⟩ : ∃ e0, l[i + 41]? = some e0 := ⟨l[i + 41]'(by omega), List.getElem?_eq_getElem _⟩
      have hg : xget ph 183 (i + 41) = some (.int e0) := by
        unfold xget
        rw [hU]
        show (l[i + 41]?).map Value.int = _
        rw [he0]
        rfl
      have h00 : l0[i + 41]? = some e0 := by
        rw [← he0, hel (i + 41), if_neg (by omega)]
      refine gt_load (v := .int x) (n := 1) (ykc_239 (e := (2, .iload_n kF2, 0)) rfl) rfl rfl ?_
      refine gt_push (v := .int ((Int16.ofInt 615).toInt32)) (n := 3) (ykc_239 (e := (1, .sipush 615, 0)) rfl) rfl rfl ?_
      refine gt_ige_f (ykc_239 (e := (4, .if_icmp .ge 24, 49)) rfl) (by rw [x615]; omega) rfl ?_
      refine gt_load (v := .ref 170) (n := 1) (ykc_239 (e := (2, .aload_n kF0, 0)) rfl) rfl rfl ?_
      refine gt_gfraw (ykc_239 (e := (5, .getfield 68, 0)) rfl) rfl hM h28 rfl ?_
      refine gt_load (v := .int x) (n := 1) (ykc_239 (e := (2, .iload_n kF2, 0)) rfl) rfl rfl ?_
      refine gt_load (v := .ref 170) (n := 1) (ykc_239 (e := (2, .aload_n kF0, 0)) rfl) rfl rfl ?_
      refine gt_gfraw (ykc_239 (e := (5, .getfield 68, 0)) rfl) rfl hM h28 rfl ?_
      refine gt_load (v := .int x) (n := 1) (ykc_239 (e := (2, .iload_n kF2, 0)) rfl) rfl rfl ?_
      refine gt_push (v := .int ((Int8.ofInt 41).toInt32)) (n := 2) (ykc_239 (e := (1, .bipush 41, 0)) rfl) rfl rfl ?_
      obtain ⟨y2, e_y2, h_y2⟩ : ∃ zq : Int32, x + ((Int8.ofInt 41).toInt32) = zq ∧ zq.toInt = x.toInt + 41 := ⟨_, rfl, by rw [ti_add (by rw [x41]; omega) (by rw [x41]; omega), x41]⟩
      refine gt_alu (st' := [.int y2, .ref 183, .int x, .ref 183]) (ykc_239 (e := (0, .iadd, 0)) rfl) (by rw [← e_y2]; rfl) rfl ?_
      refine gt_ialk (A := 183) (k := i + 41) (y := e0) (ykc_239 (e := (5, .iaload, 0)) rfl) hg ⟨l, hU⟩ (by omega) rfl ?_
      refine gt_iasraw (ykc_239 (e := (5, .iastore, 0)) rfl) hU (by omega) (by omega) rfl (fun ph2 hU2 hO2 => ?_)
      obtain ⟨x1, e_x1, h_x1⟩ : ∃ zq : Int32, x + Int32.ofInt 1 = zq ∧ zq.toInt = x.toInt + 1 := ⟨_, rfl, by rw [ti_add (by rw [xi1]; omega) (by rw [xi1]; omega), xi1]⟩
      refine gt_store (L' := [some (.ref 170), some (.int y), some (.int x1)]) (st' := []) (n := 3) (ykc_239 (e := (3, .iinc 2 1, 0)) rfl) (by rw [← e_x1]; rfl) rfl ?_
      refine gt_br (pc' := 21) (st' := []) (ykc_239 (e := (4, .goto (-25), 21)) rfl) rfl ?_
      have ek : x.toInt.toNat = i := by omega
      rw [ek] at hU2
      refine ih (i + 1) x1 (l.set i e0) ph2 (by omega) (by omega) (by omega) ((hO2 170 (by decide)).trans hM) hU2 (by rw [List.length_set]; exact hlen) (fun k => ?_) (fun a ha => (hO2 a ha).trans (hO a ha))
      by_cases ki : k = i
      · subst ki
        rw [List.getElem?_set_self (by omega), if_pos (by omega), h00]
      · rw [List.getElem?_set_ne (Ne.symm ki), hel k]
        by_cases kl : k < i
        · rw [if_pos kl, if_pos (by omega)]
        · rw [if_neg kl, if_neg (by omega)]

set_option maxRecDepth 6000 in
theorem xINV_27r {n : Nat} {ph ph' : pm_H} {y : Int32} (h : xINV n ph) (u : xu1 ph ph' 170 27 (.int y)) (hy : ∀ k : Nat, (k : Int) < y.toInt → xrowG ph 183 (41 * k)) : xINV n ph' := by
  obtain ⟨W, P, T, U, C, ⟨f1, f2, f3, f4, f5⟩, ⟨b1, b2, b3, b4⟩, g1, g2, g3⟩ := h
  have hf : ∀ k, k ≠ 27 → xget ph' 170 k = xget ph 170 k := fun k hk => u.2.1 170 k (fun q => hk q.2)
  have ha : ∀ a, a ≠ 170 → pm_at ph' a = pm_at ph a := u.2.2
  refine ⟨W, P, T, y, C, ⟨(hf 4 (by decide)).trans f1, (hf 5 (by decide)).trans f2, (hf 6 (by decide)).trans f3, u.1, (hf 7 (by decide)).trans f5⟩, ⟨b1, b2, b3, b4⟩, xgr_eq b1 b2 (fun k _ => xget_at (ha 174 (by decide)) _) g1, fun k hk => xgr_eq b1 b2 (fun c _ => xget_at (ha 183 (by decide)) _) (hy k hk W P T f1 f2 f3 b1 b2), fun i hi z hz hz0 => ?_⟩
  obtain ⟨K, k1, k2, k3⟩ := g3 i hi z (xgb_eq (ha 198 (by decide)) hz) hz0
  exact ⟨K, (xget_at (ha 199 (by decide)) i).trans k1, k2, fun e => xgr_eq b1 b2 (fun c _ => xget_at (ha 200 (by decide)) _) (k3 e)⟩
set_option maxRecDepth 6000 in
/-- undone moved up by a row -/
theorem xINV_shift {n : Nat} {ph ph' : pm_H} (h : xINV n ph) {U : Int32} (q : xget ph 170 27 = some (.int U)) (hU : U.toInt = 15) (hr : xrowG ph 183 (41 * 15)) (ho : ∀ a, a ≠ 183 → pm_at ph' a = pm_at ph a) (hs : ∀ k, k < 615 → xget ph' 183 k = xget ph 183 (k + 41)) : xINV n ph' := by
  have hrow : ∀ k : Nat, k < 16 → xrowG ph 183 (41 * k) := fun k hk => by
    by_cases e : k = 15
    · subst e
      exact hr
    · exact xINV_row h q (by omega)
  obtain ⟨W, P, T, U2, C, ⟨f1, f2, f3, f4, f5⟩, ⟨b1, b2, b3, b4⟩, g1, g2, g3⟩ := h
  have e9 := xget_int f4 q
  subst e9
  have hf : ∀ k, xget ph' 170 k = xget ph 170 k := fun k => xget_at (ho 170 (by decide)) k
  refine ⟨W, P, T, U2, C, ⟨(hf 4).trans f1, (hf 5).trans f2, (hf 6).trans f3, (hf 27).trans f4, (hf 7).trans f5⟩, ⟨b1, b2, b3, b4⟩, xgr_eq b1 b2 (fun k _ => xget_at (ho 174 (by decide)) _) g1, fun k hk => xgr_cp (off := 41 * (k + 1)) b1 b2 (fun c hc => ?_) (hrow (k + 1) (by omega) W P T f1 f2 f3 b1 b2), fun i hi z hz hz0 => ?_⟩
  · rw [hs (41 * k + c) (by omega)]
    exact congrArg (xget ph 183) (by omega)
  · obtain ⟨K, k1, k2, k3⟩ := g3 i hi z (xgb_eq (ho 198 (by decide)) hz) hz0
    exact ⟨K, (xget_at (ho 199 (by decide)) i).trans k1, k2, fun e => xgr_eq b1 b2 (fun c _ => xget_at (ho 200 (by decide)) _) (k3 e)⟩
set_option maxRecDepth 6000 in
theorem xadds {E : pm_H → Prop} (hE : xHE xX xgA_VR xgF_VR E) {m : Int} {D n : Nat} {ph : pm_H} {y U : Int32} (hP : xH xX kK m 0 ph) (g9 : E ph) (hI : xINV n ph) (q27 : xget ph 170 27 = some (.int U)) (hr : xrowG ph 183 (41 * U.toInt.toNat)) : ∃ v ph', pm_Rd kK false (D + 1) 239 [.ref 170, .int y] ph (v, ph', 0, 0) ∧ (v = some (.int y) ∧ xH xX kK m 0 ph' ∧ xINV n ph' ∧ E ph') := by
  obtain ⟨U9, r1, r2, r3⟩ := xM_fi (k := 27) hP rfl
  have eU := xget_int r1 q27
  subst eU
  have hu0 : 0 ≤ U9.toInt := r2
  have hu1 : U9.toInt ≤ 15 := r3
  refine xRd_mk (nl := 3) rfl rfl ?_
  show xGT kK D 239 _ (0, [some (.ref 170), some (.int y), none], [], ph, 0, 0)
  refine gt_load (v := .ref 170) (n := 1) (ykc_239 (e := (2, .aload_n kF0, 0)) rfl) rfl rfl ?_
  refine gt_alu (st' := [.ref 170, .ref 170]) (ykc_239 (e := (0, .dup, 0)) rfl) rfl rfl ?_
  refine gt_gfk (v := .int U9) (ykc_239 (e := (5, .getfield 188, 0)) rfl) rfl hP q27 rfl ?_
  refine gt_alu (st' := [.int (Int32.ofInt 1), .int U9, .ref 170]) (ykc_239 (e := (0, .iconst 1, 0)) rfl) rfl rfl ?_
  obtain ⟨y1, e_y1, h_y1⟩ : ∃ zq : Int32, U9 + (Int32.ofInt 1) = zq ∧ zq.toInt = U9.toInt + 1 := ⟨_, rfl, by rw [ti_add (by rw [xi1]; omega) (by rw [xi1]; omega), xi1]⟩
  refine gt_alu (st' := [.int y1, .ref 170]) (ykc_239 (e := (0, .iadd, 0)) rfl) (by rw [← e_y1]; exact rfl) rfl ?_
  by_cases hlt : U9.toInt < 15
  · refine gt_pf (y := y1) (ykc_239 (e := (5, .putfield 188, 0)) rfl) rfl hP rfl rfl (by show 0 ≤ y1.toInt; omega) (by show y1.toInt ≤ 15; omega) rfl (fun ph101 hP101 u101 => ?_)
    refine gt_load (v := .ref 170) (n := 1) (ykc_239 (e := (2, .aload_n kF0, 0)) rfl) rfl rfl ?_
    refine gt_gfk (v := .int y1) (ykc_239 (e := (5, .getfield 188, 0)) rfl) rfl hP101 u101.1 rfl ?_
    refine gt_push (v := .int ((Int8.ofInt 15).toInt32)) (n := 2) (ykc_239 (e := (1, .bipush 15, 0)) rfl) rfl rfl ?_
    refine gt_ile_t (ykc_239 (e := (4, .if_icmp .le 43, 59)) rfl) (by rw [x15]; omega) ?_
    refine gt_load (v := .int y) (n := 1) (ykc_239 (e := (2, .iload_n kF1, 0)) rfl) rfl rfl ?_
    refine gt_ret (ykc_239 (e := (7, .ireturn, 0)) rfl) rfl ?_
    refine ⟨rfl, hP101, xINV_27r hI u101 (fun k hk => ?_), xu1_E hE u101 rfl rfl rfl g9⟩
    by_cases e : k = U9.toInt.toNat
    · subst e
      exact hr
    · exact xINV_row hI q27 (by omega)
  · have hU15 : U9.toInt = 15 := by omega
    obtain ⟨fl0, fts, hat0, -, -⟩ := xM_at hP
    have hv0 : fl0[27]? = some (.int U9) := by
      have g := q27
      unfold xget at g
      rw [hat0] at g
      exact g
    have hk27 : 27 < fl0.length := (List.getElem?_eq_some_iff.mp hv0).1
    have h28 : fl0[28]? = some (.ref 183) := by
      have g := xM_fr (k := 28) (A := 183) hP rfl rfl
      unfold xget at g
      rw [hat0] at g
      exact g
    obtain ⟨l0, hat183, hlen, hel⟩ := xA_at (A := 183) hP rfl rfl
    refine gt_pfraw (ykc_239 (e := (5, .putfield 188, 0)) rfl) rfl hat0 rfl hk27 rfl (fun ph1 hat1 hO1 => ?_)
    have h27 : (fl0.set 27 (.int y1))[27]? = some (.int y1) := List.getElem?_set_self hk27
    refine gt_load (v := .ref 170) (n := 1) (ykc_239 (e := (2, .aload_n kF0, 0)) rfl) rfl rfl ?_
    refine gt_gfraw (ykc_239 (e := (5, .getfield 188, 0)) rfl) rfl hat1 h27 rfl ?_
    refine gt_push (v := .int ((Int8.ofInt 15).toInt32)) (n := 2) (ykc_239 (e := (1, .bipush 15, 0)) rfl) rfl rfl ?_
    refine gt_ile_f (ykc_239 (e := (4, .if_icmp .le 43, 59)) rfl) (by rw [x15]; omega) rfl ?_
    refine gt_alu (st' := [.int (Int32.ofInt 0)]) (ykc_239 (e := (0, .iconst 0, 0)) rfl) rfl rfl ?_
    refine gt_store (L' := [some (.ref 170), some (.int y), some (.int (Int32.ofInt 0))]) (st' := []) (n := 1) (ykc_239 (e := (3, .istore_n kF2, 0)) rfl) rfl rfl ?_
    refine xadd_loop (phS := ph1) hlen ((List.getElem?_set_ne (by decide)).trans h28) (fun ph' l x a1 a2 a3 a4 a5 => ?_) 616 0 _ l0 ph1 (by omega) (by omega) (by decide) hat1 ((hO1 183 (by decide)).trans hat183) hlen (fun k => by rw [if_neg (by omega)]) (fun _ _ => rfl)
    · refine gt_load (v := .ref 170) (n := 1) (ykc_239 (e := (2, .aload_n kF0, 0)) rfl) rfl rfl ?_
      refine gt_alu (st' := [.ref 170, .ref 170]) (ykc_239 (e := (0, .dup, 0)) rfl) rfl rfl ?_
      refine gt_gfraw (ykc_239 (e := (5, .getfield 188, 0)) rfl) rfl a1 h27 rfl ?_
      refine gt_alu (st' := [.int (Int32.ofInt 1), .int y1, .ref 170]) (ykc_239 (e := (0, .iconst 1, 0)) rfl) rfl rfl ?_
      obtain ⟨y3, e_y3, h_y3⟩ : ∃ zq : Int32, y1 - Int32.ofInt 1 = zq ∧ zq.toInt = y1.toInt - 1 := ⟨_, rfl, by rw [ti_sub (by rw [xi1]; omega) (by rw [xi1]; omega), xi1]⟩
      refine gt_alu (st' := [.int y3, .ref 170]) (ykc_239 (e := (0, .isub, 0)) rfl) (by rw [← e_y3]; rfl) rfl ?_
      refine gt_pfraw (ykc_239 (e := (5, .putfield 188, 0)) rfl) rfl a1 rfl (by rw [List.length_set]; exact hk27) rfl (fun phF hF1 hF2 => ?_)
      refine gt_load (v := .int y) (n := 1) (ykc_239 (e := (2, .iload_n kF1, 0)) rfl) rfl rfl ?_
      refine gt_ret (ykc_239 (e := (7, .ireturn, 0)) rfl) rfl ?_
      have ey : y3 = U9 := Int32.toInt_inj.mp (by omega)
      subst ey
      have hfl : (fl0.set 27 (.int y1)).set 27 (.int y3) = fl0 := by
        apply List.ext_getElem?
        intro k
        by_cases e : k = 27
        · subst e
          rw [List.getElem?_set_self (by rw [List.length_set]; exact hk27), hv0]
        · rw [List.getElem?_set_ne (Ne.symm e), List.getElem?_set_ne (Ne.symm e)]
      have hO : ∀ a, a ≠ 183 → pm_at phF a = pm_at ph a := fun a ha => by
        by_cases e : a = 170
        · subst e
          rw [hF1, hfl, hat0]
        · rw [hF2 a e, a5 a ha, hO1 a e]
      have h183 : pm_at phF 183 = some (.inl (0, .inl l)) := (hF2 183 (by decide)).trans a2
      have hPS : xH xX kK m 0 (ph.set 183 (.inl (0, .inl l))) := xH_set (i := 13) (t := .inl (0, 656, 41, _, 0)) hP rfl rfl ⟨l, xat_self hat183, a3, fun k z hk => by
        rw [a4 k] at hk
        by_cases e : k < 615
        · rw [if_pos e] at hk
          have g := hel (k + 41) z hk
          rw [show (k + 41) % 41 = k % 41 by omega] at g
          exact g
        · rw [if_neg e] at hk
          exact hel k z hk⟩
      have hPF : xH xX kK m 0 phF := xH_eq (fun a => by
        by_cases e : a = 183
        · subst e
          rw [h183, xat_self hat183]
        · rw [hO a e, xat_ne e]) hPS
      have hs : ∀ k, k < 615 → xget phF 183 k = xget ph 183 (k + 41) := fun k hk => by
        unfold xget
        rw [h183, hat183]
        show (l[k]?).map Value.int = (l0[k + 41]?).map Value.int
        rw [a4 k, if_pos hk]
      refine ⟨rfl, hPF, xINV_shift hI q27 hU15 (by rw [hU15] at hr; exact hr) hO hs, hE ph phF ⟨fun a i ha hi => ?_, fun a i k ha hi => ?_⟩ g9⟩
      · refine (hO a (fun e => ?_)).symm
        subst e
        have ha : xown 183 = some i := ha
        rw [show xown 183 = some 13 from rfl] at ha
        cases ha
        exact absurd hi (by decide)
      · refine (xget_at (hO a (fun e => ?_)) k).symm
        subst e
        have ha : xown 183 = some i := ha
        rw [show xown 183 = some 13 from rfl] at ha
        cases ha
        have h2 : (13, k) ∈ xgF_VR := hi
        unfold xgF_VR at h2
        simp at h2

