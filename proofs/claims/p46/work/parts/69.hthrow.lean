/-! person, thing, row of the class: they answer, or they throw at once; printed by wip/x/h_zthrow.py -/
set_option maxRecDepth 6000 in
theorem pm_ST {K : pm_K} {al : Bool} {C : Nat → List Value → pm_H → pm_R → Prop} {mj : Nat} {k : Nat} {y : pm_S} {r : pm_R} (hT : pm_Tn K al C mj k y r) : ∀ (n : Nat) (x : pm_S), pm_Sn K al C mj n x y → ∃ q, pm_Tn K al C mj q x r := by
  intro n
  induction n with
  | zero =>
    intro x h
    have h : x = y := h
    subst h
    exact ⟨k, hT⟩
  | succ n ih =>
    intro x h
    rw [pm_Sn] at h
    split at h
    · next x' hx =>
      obtain ⟨q, hq⟩ := ih _ h
      exact ⟨q + 1, by rw [pm_Tn, hx]; exact hq⟩
    · next j as pc L st ph cs ss hx =>
      obtain ⟨v, ph', c1, s1, hC, h2⟩ := h
      obtain ⟨q, hq⟩ := ih _ h2
      exact ⟨q + 1, by rw [pm_Tn, hx]; exact ⟨v, ph', c1, s1, hC, hq⟩⟩
    · exact h.elim
set_option maxRecDepth 6000 in
theorem xGT_se {D j : Nat} {Q : Option Value → pm_H → Prop} {x y : pm_S} (h : pm_Se kK false (pm_Rd kK false D) j x y) (g : xGT kK D j Q y) : xGT kK D j Q x := by
  obtain ⟨n, h⟩ := h
  obtain ⟨k, v, ph, h1, h2⟩ := g
  obtain ⟨q, hq⟩ := pm_ST h1 n x h
  exact ⟨q, v, ph, hq, h2⟩
set_option maxRecDepth 6000 in
theorem pm_Se_t {K : pm_K} {al : Bool} {C : Nat → List Value → pm_H → pm_R → Prop} {mj : Nat} {y z : pm_S} (h2 : pm_Se K al C mj y z) : ∀ (n : Nat) (x : pm_S), pm_Sn K al C mj n x y → pm_Se K al C mj x z := by
  intro n
  induction n with
  | zero =>
    intro x h
    have h : x = y := h
    subst h
    exact h2
  | succ n ih =>
    intro x h
    rw [pm_Sn] at h
    split at h
    · next x' hx => exact .step hx (ih _ h)
    · next j as pc L st ph cs ss hx =>
      obtain ⟨v, ph', c1, s1, hC, h3⟩ := h
      exact .call hx hC (ih _ h3)
    · exact h.elim
set_option maxRecDepth 6000 in
theorem xO_at {m : Int} {w a i ci : Nat} {fts : List ((Int × Int) ⊕ Option Nat)} {ph : pm_H} (hP : xH xX kK m w ph) (ho : xown a = some i) (ht : xkt i = some (some a, .inr (ci, fts))) : ∃ fl, pm_at ph a = some (.inr (ci, fl)) ∧ ∀ (k : Nat) (ft : (Int × Int) ⊕ Option Nat), fts[k]? = some ft → ∃ v, fl[k]? = some v ∧ xftG xX v ft := by
  obtain ⟨s, t, h1, -, h3⟩ := hP a i ho
  rw [show xX.2.1 i = xkt i from rfl, ht] at h1
  cases h1
  exact h3
set_option maxRecDepth 6000 in
theorem xgfs {K : pm_K} {al : Bool} {mj pc aux i ci k a c s : Nat} {v v0 : Value} {fl : List Value} {L : List (Option Value)} {st : List Value} {ph : pm_H} (hc : pm_code K mj pc = some (5, .getfield i, aux)) (hl : pm_lnk K (pm_own K mj) i = some (6, ci, k, v0)) (hat : pm_at ph a = some (.inr (ci, fl))) (hv : fl[k]? = some v) : pm_step K al mj (pc, L, .ref a :: st, ph, c, s) = some (.inl (pc + 3, L, v :: st, ph, c, s)) := ks5 (c1 := 0) (s1 := 0) hc (by
  unfold pm_mem
  have e : Nat.beq ci ci = true := Nat.beq_refl ci
  simp only [hl, hat, e, hv, cond_true])
set_option maxRecDepth 6000 in
theorem gt_gfo {ci i k a pc pc' aux D j : Nat} {Q : Option Value → pm_H → Prop} {v v0 : Value} {fl : List Value} {L : List (Option Value)} {st : List Value} {ph : pm_H} (hc : pm_code kK j pc = some (5, .getfield i, aux)) (hl : pm_lnk kK (pm_own kK j) i = some (6, ci, k, v0)) (hat : pm_at ph a = some (.inr (ci, fl))) (hv : fl[k]? = some v) (hp : pc + 3 = pc') (kk : xGT kK D j Q (pc', L, v :: st, ph, 0, 0)) : xGT kK D j Q (pc, L, .ref a :: st, ph, 0, 0) := gt_mem (n := 3) hc (by
  unfold pm_mem
  have e : Nat.beq ci ci = true := Nat.beq_refl ci
  simp only [hl, hat, e, hv, cond_true]) hp kk
set_option maxRecDepth 6000 in
theorem xinvV {K : pm_K} {ow i j n ci a : Nat} {st r as fl : List Value} {ph : pm_H} (hl : pm_lnk K ow i = some (2, j, n, .ref ci)) (hd : st.drop n = .ref a :: r) (hat : pm_at ph a = some (.inr (ci, fl))) (hcat : Nat.ble (r.map fun v => v.category).sum 8 = true) (ha : .ref a :: (st.take n).reverse = as) : pm_inv K ow (.invokevirtual i) st ph = some (j, as, r) := by
  unfold pm_inv
  have e : Nat.beq ci ci = true := Nat.beq_refl ci
  simp only [hl, hd, hat, e, hcat, Bool.and_self, cond_true, ha]
set_option maxRecDepth 6000 in
theorem xts_def {d lo hi : Int} {offs : Array Int} {aux pc t : Nat} {x : Int32} {r : List Value} (h : x.toInt < lo ∨ hi < x.toInt) (ht : pm_tgt pc d = some t) : pm_br (.tableswitch d lo hi offs) aux pc (.int x :: r) = some (t, r) := by
  have e : (decide (x.toInt < lo) || decide (hi < x.toInt)) = true := by
    rcases h with h | h
    · rw [decide_eq_true h]; rfl
    · rw [decide_eq_true h]; exact Bool.or_true _
  unfold pm_br
  simp only [e, cond_true, ht]
set_option maxRecDepth 6000 in
theorem xbr1 {o : Int} {aux pc : Nat} : pm_br (.ifCond .ne o) aux pc [.int (Int32.ofInt 1)] = some (aux, []) := by
  show some (bif decide (Int32.ofInt 1 = 0) then pc + 3 else aux, []) = _
  rw [decide_eq_false (by decide)]
  rfl
set_option maxRecDepth 6000 in
theorem xbr0 {o : Int} {aux pc : Nat} : pm_br (.ifCond .ne o) aux pc [.int (Int32.ofInt 0)] = some (pc + 3, []) := by
  show some (bif decide (Int32.ofInt 0 = 0) then pc + 3 else aux, []) = _
  rw [decide_eq_true (by decide)]
  rfl
set_option maxRecDepth 6000 in
theorem x8i : ((Int8.ofInt 8).toInt32).toInt = 8 := by decide

set_option maxRecDepth 6000 in
theorem xhas_106 {m : Int} {w D : Nat} {p : Int32} {ph : pm_H} (hP : xH xX kK m w ph) : (pm_Rd kK false (D + 1) 106 [.ref 25, .int p] ph (some (.int (Int32.ofInt 1)), ph, 0, 0) ∧ 0 ≤ p.toInt ∧ p.toInt ≤ 7) ∨ pm_Rd kK false (D + 1) 106 [.ref 25, .int p] ph (some (.int (Int32.ofInt 0)), ph, 0, 0) := by
  obtain ⟨fl, hat, hfl⟩ := xO_at (a := 25) hP rfl rfl
  obtain ⟨v, hv, P, e, -, -⟩ := hfl 0 _ rfl
  subst e
  have key : ∃ v ph', pm_Rd kK false (D + 1) 106 [.ref 25, .int p] ph (v, ph', 0, 0) ∧ (ph' = ph ∧ ((v = some (.int (Int32.ofInt 1)) ∧ 0 ≤ p.toInt ∧ p.toInt ≤ 7) ∨ v = some (.int (Int32.ofInt 0)))) := by
    refine xRd_mk (nl := 2) rfl rfl ?_
    show xGT kK D 106 _ (0, [some (.ref 25), some (.int p)], [], ph, 0, 0)
    refine gt_load (v := .int p) (n := 1) (ykc_106 (e := (2, .iload_n kF1, 0)) rfl) rfl rfl ?_
    by_cases h1 : p.toInt < 0
    · refine gt_zlt_t (ykc_106 (e := (4, .ifCond .lt 21, 22)) rfl) h1 ?_
      refine gt_alu (st' := [.int (Int32.ofInt 0)]) (ykc_106 (e := (0, .iconst 0, 0)) rfl) rfl rfl ?_
      refine gt_ret (ykc_106 (e := (7, .ireturn, 0)) rfl) (xretz (by decide) (by decide)) ?_
      exact ⟨rfl, Or.inr rfl⟩
    · refine gt_zlt_f (ykc_106 (e := (4, .ifCond .lt 21, 22)) rfl) (by omega) rfl ?_
      refine gt_load (v := .int p) (n := 1) (ykc_106 (e := (2, .iload_n kF1, 0)) rfl) rfl rfl ?_
      refine gt_load (v := .ref 25) (n := 1) (ykc_106 (e := (2, .aload_n kF0, 0)) rfl) rfl rfl ?_
      refine gt_gfo (ykc_106 (e := (5, .getfield 30, 0)) rfl) rfl hat hv rfl ?_
      by_cases h2 : p.toInt < P.toInt
      · refine gt_ige_f (ykc_106 (e := (4, .if_icmp .ge 13, 22)) rfl) h2 rfl ?_
        refine gt_load (v := .int p) (n := 1) (ykc_106 (e := (2, .iload_n kF1, 0)) rfl) rfl rfl ?_
        refine gt_push (v := .int ((Int8.ofInt 8).toInt32)) (n := 2) (ykc_106 (e := (1, .bipush 8, 0)) rfl) rfl rfl ?_
        by_cases h3 : p.toInt < 8
        · refine gt_ige_f (ykc_106 (e := (4, .if_icmp .ge 7, 22)) rfl) (by rw [x8i]; exact h3) rfl ?_
          refine gt_alu (st' := [.int (Int32.ofInt 1)]) (ykc_106 (e := (0, .iconst 1, 0)) rfl) rfl rfl ?_
          refine gt_br (pc' := 23) (st' := [.int (Int32.ofInt 1)]) (ykc_106 (e := (4, .goto 4, 23)) rfl) rfl ?_
          refine gt_ret (ykc_106 (e := (7, .ireturn, 0)) rfl) (xretz (by decide) (by decide)) ?_
          exact ⟨rfl, Or.inl ⟨rfl, by omega, by omega⟩⟩
        · refine gt_ige_t (ykc_106 (e := (4, .if_icmp .ge 7, 22)) rfl) (by rw [x8i]; omega) ?_
          refine gt_alu (st' := [.int (Int32.ofInt 0)]) (ykc_106 (e := (0, .iconst 0, 0)) rfl) rfl rfl ?_
          refine gt_ret (ykc_106 (e := (7, .ireturn, 0)) rfl) (xretz (by decide) (by decide)) ?_
          exact ⟨rfl, Or.inr rfl⟩
      · refine gt_ige_t (ykc_106 (e := (4, .if_icmp .ge 13, 22)) rfl) (by omega) ?_
        refine gt_alu (st' := [.int (Int32.ofInt 0)]) (ykc_106 (e := (0, .iconst 0, 0)) rfl) rfl rfl ?_
        refine gt_ret (ykc_106 (e := (7, .ireturn, 0)) rfl) (xretz (by decide) (by decide)) ?_
        exact ⟨rfl, Or.inr rfl⟩
  obtain ⟨v, ph', k1, k2, k3⟩ := key
  subst k2
  rcases k3 with ⟨k3, k4⟩ | k3
  · subst k3
    exact Or.inl ⟨k1, k4⟩
  · subst k3
    exact Or.inr k1

set_option maxRecDepth 6000 in
theorem xhas_107 {m : Int} {w D : Nat} {p : Int32} {ph : pm_H} (hP : xH xX kK m w ph) : (pm_Rd kK false (D + 1) 107 [.ref 25, .int p] ph (some (.int (Int32.ofInt 1)), ph, 0, 0) ∧ 0 ≤ p.toInt ∧ p.toInt ≤ 7) ∨ pm_Rd kK false (D + 1) 107 [.ref 25, .int p] ph (some (.int (Int32.ofInt 0)), ph, 0, 0) := by
  obtain ⟨fl, hat, hfl⟩ := xO_at (a := 25) hP rfl rfl
  obtain ⟨v, hv, P, e, -, -⟩ := hfl 1 _ rfl
  subst e
  have key : ∃ v ph', pm_Rd kK false (D + 1) 107 [.ref 25, .int p] ph (v, ph', 0, 0) ∧ (ph' = ph ∧ ((v = some (.int (Int32.ofInt 1)) ∧ 0 ≤ p.toInt ∧ p.toInt ≤ 7) ∨ v = some (.int (Int32.ofInt 0)))) := by
    refine xRd_mk (nl := 2) rfl rfl ?_
    show xGT kK D 107 _ (0, [some (.ref 25), some (.int p)], [], ph, 0, 0)
    refine gt_load (v := .int p) (n := 1) (ykc_107 (e := (2, .iload_n kF1, 0)) rfl) rfl rfl ?_
    by_cases h1 : p.toInt < 0
    · refine gt_zlt_t (ykc_107 (e := (4, .ifCond .lt 21, 22)) rfl) h1 ?_
      refine gt_alu (st' := [.int (Int32.ofInt 0)]) (ykc_107 (e := (0, .iconst 0, 0)) rfl) rfl rfl ?_
      refine gt_ret (ykc_107 (e := (7, .ireturn, 0)) rfl) (xretz (by decide) (by decide)) ?_
      exact ⟨rfl, Or.inr rfl⟩
    · refine gt_zlt_f (ykc_107 (e := (4, .ifCond .lt 21, 22)) rfl) (by omega) rfl ?_
      refine gt_load (v := .int p) (n := 1) (ykc_107 (e := (2, .iload_n kF1, 0)) rfl) rfl rfl ?_
      refine gt_load (v := .ref 25) (n := 1) (ykc_107 (e := (2, .aload_n kF0, 0)) rfl) rfl rfl ?_
      refine gt_gfo (ykc_107 (e := (5, .getfield 34, 0)) rfl) rfl hat hv rfl ?_
      by_cases h2 : p.toInt < P.toInt
      · refine gt_ige_f (ykc_107 (e := (4, .if_icmp .ge 13, 22)) rfl) h2 rfl ?_
        refine gt_load (v := .int p) (n := 1) (ykc_107 (e := (2, .iload_n kF1, 0)) rfl) rfl rfl ?_
        refine gt_push (v := .int ((Int8.ofInt 8).toInt32)) (n := 2) (ykc_107 (e := (1, .bipush 8, 0)) rfl) rfl rfl ?_
        by_cases h3 : p.toInt < 8
        · refine gt_ige_f (ykc_107 (e := (4, .if_icmp .ge 7, 22)) rfl) (by rw [x8i]; exact h3) rfl ?_
          refine gt_alu (st' := [.int (Int32.ofInt 1)]) (ykc_107 (e := (0, .iconst 1, 0)) rfl) rfl rfl ?_
          refine gt_br (pc' := 23) (st' := [.int (Int32.ofInt 1)]) (ykc_107 (e := (4, .goto 4, 23)) rfl) rfl ?_
          refine gt_ret (ykc_107 (e := (7, .ireturn, 0)) rfl) (xretz (by decide) (by decide)) ?_
          exact ⟨rfl, Or.inl ⟨rfl, by omega, by omega⟩⟩
        · refine gt_ige_t (ykc_107 (e := (4, .if_icmp .ge 7, 22)) rfl) (by rw [x8i]; omega) ?_
          refine gt_alu (st' := [.int (Int32.ofInt 0)]) (ykc_107 (e := (0, .iconst 0, 0)) rfl) rfl rfl ?_
          refine gt_ret (ykc_107 (e := (7, .ireturn, 0)) rfl) (xretz (by decide) (by decide)) ?_
          exact ⟨rfl, Or.inr rfl⟩
      · refine gt_ige_t (ykc_107 (e := (4, .if_icmp .ge 13, 22)) rfl) (by omega) ?_
        refine gt_alu (st' := [.int (Int32.ofInt 0)]) (ykc_107 (e := (0, .iconst 0, 0)) rfl) rfl rfl ?_
        refine gt_ret (ykc_107 (e := (7, .ireturn, 0)) rfl) (xretz (by decide) (by decide)) ?_
        exact ⟨rfl, Or.inr rfl⟩
  obtain ⟨v, ph', k1, k2, k3⟩ := key
  subst k2
  rcases k3 with ⟨k3, k4⟩ | k3
  · subst k3
    exact Or.inl ⟨k1, k4⟩
  · subst k3
    exact Or.inr k1

def xnP_129 (pc : Nat) : xnd × List Nat := ((pc, [some (.inr (.inr (.inl 31))), some (.inl (Int.ofNat 0, Int.ofNat 7)), none], [], 0, (Int.ofNat 0, [])), [])
set_option maxRecDepth 6000 in
theorem xnPc_129 : [60, 70, 80, 90, 100, 113].all (fun pc => xnchk xX xsp_129_0 xt_129 [] [[xnP_129 pc]] (some (.inl (Int.negSucc 2147483647, Int.ofNat 2147483647))) [] 600 (xnP_129 pc)) = true := by decide +kernel
set_option maxRecDepth 6000 in
theorem xsw_129 {y : Int32} (h0 : 0 ≤ y.toInt) (h1 : y.toInt ≤ 5) : ∃ t, t ∈ [60, 70, 80, 90, 100, 113] ∧ pm_br (.tableswitch 113 0 5 #[40, 50, 60, 70, 80, 93]) 40 20 [.int y] = some (t, []) := by
  rcases (show y.toInt = 0 ∨ y.toInt = 1 ∨ y.toInt = 2 ∨ y.toInt = 3 ∨ y.toInt = 4 ∨ y.toInt = 5 by omega) with h | h | h | h | h | h
  · have e : y = Int32.ofInt 0 := Int32.toInt_inj.mp (by rw [h]; decide)
    subst e
    exact ⟨60, by decide, by decide +kernel⟩
  · have e : y = Int32.ofInt 1 := Int32.toInt_inj.mp (by rw [h]; decide)
    subst e
    exact ⟨70, by decide, by decide +kernel⟩
  · have e : y = Int32.ofInt 2 := Int32.toInt_inj.mp (by rw [h]; decide)
    subst e
    exact ⟨80, by decide, by decide +kernel⟩
  · have e : y = Int32.ofInt 3 := Int32.toInt_inj.mp (by rw [h]; decide)
    subst e
    exact ⟨90, by decide, by decide +kernel⟩
  · have e : y = Int32.ofInt 4 := Int32.toInt_inj.mp (by rw [h]; decide)
    subst e
    exact ⟨100, by decide, by decide +kernel⟩
  · have e : y = Int32.ofInt 5 := Int32.toInt_inj.mp (by rw [h]; decide)
    subst e
    exact ⟨113, by decide, by decide +kernel⟩
set_option maxRecDepth 6000 in
theorem xcl_person {E : pm_H → Prop} (hE : xHE xX xgA_G8 xgF_G8 E) (hC : xPC E) {m : Int} (hm : m ≤ 2147483646) (h0m : (0 : Int) ≤ m) {D : Nat} (hD : 10 ≤ D) {ph : pm_H} {p y : Int32} (hP : xH xX kK m 0 ph) (g9 : E ph) : (∃ r ph', pm_Rd kK false (D + 1) 129 [.ref 0, .int p, .int y] ph (some (.int r), ph', 0, 0) ∧ xH xX kK m 0 ph' ∧ E ph') ∨ (∃ pc, (pc = 11 ∨ pc = 133) ∧ pm_Se kK false (pm_Rd kK false D) 129 (pm_ent kK 129 [.ref 0, .int p, .int y] ph) (pc, [some (.ref 0), some (.int p), some (.int y)], [], ph, 0, 0)) := by
  obtain ⟨fl0, hat0, hfl0⟩ := xO_at (a := 0) hP rfl rfl
  obtain ⟨v4, hv4, hv⟩ := hfl0 4 _ rfl
  have e4 : v4 = .ref 25 := xaO (m' := 0) (A := 25) hP rfl hv
  subst e4
  obtain ⟨fl1, hat1, -⟩ := xO_at (a := 25) hP rfl rfl
  obtain ⟨D', rfl⟩ : ∃ D', D = D' + 1 := ⟨D - 1, by omega⟩
  have pre : ∀ (z : Int32) (t : Nat), pm_Rd kK false (D' + 1) 106 [.ref 25, .int p] ph (some (.int z), ph, 0, 0) → pm_br (.ifCond .ne 11) 19 8 [.int z] = some (t, []) → pm_Se kK false (pm_Rd kK false (D' + 1)) 129 (pm_ent kK 129 [.ref 0, .int p, .int y] ph) (t, [some (.ref 0), some (.int p), some (.int y)], [], ph, 0, 0) := fun z t hz ht => by
    show pm_Se kK false (pm_Rd kK false (D' + 1)) 129 (0, [some (.ref 0), some (.int p), some (.int y)], [], ph, 0, 0) _
    refine .step (ks2 (ykc_129 (e := (2, .aload_n kF0, 0)) rfl) (v := .ref 0) (n := 1) rfl) ?_
    refine .step (xgfs (ykc_129 (e := (5, .getfield 42, 0)) rfl) rfl hat0 hv4) ?_
    refine .step (ks2 (ykc_129 (e := (2, .iload_n kF1, 0)) rfl) (v := .int p) (n := 1) rfl) ?_
    refine .call (ks6 (ykc_129 (e := (6, .invokevirtual 167, 0)) rfl) (xinvV rfl rfl hat1 rfl rfl)) hz ?_
    exact .step (ks4 (ykc_129 (e := (4, .ifCond .ne 11, 19)) rfl) ht) .rf
  rcases xhas_106 (D := D') (p := p) hP with ⟨hz, p0, p7⟩ | hz
  · have h19 := pre _ 19 hz xbr1
    by_cases hy : 0 ≤ y.toInt ∧ y.toInt ≤ 5
    · left
      have hrun : ∃ v ph', pm_Rd kK false (D' + 1 + 1) 129 [.ref 0, .int p, .int y] ph (v, ph', 0, 0) ∧ (∃ r : Int32, v = some (.int r) ∧ xH xX kK m 0 ph' ∧ E ph') := by
        obtain ⟨t9, t9m, t9b⟩ := xsw_129 hy.1 hy.2
        refine xRd_mk (nl := 3) rfl rfl (xGT_se h19 (gt_load (v := .int y) (n := 1) (ykc_129 (e := (2, .iload_n kF2, 0)) rfl) rfl rfl (gt_br (ykc_129 (e := (4, .tableswitch 113 0 5 #[40, 50, 60, 70, 80, 93], 40)) rfl) t9b ?_)))
        refine xseg_ok (ns := [[xnP_129 t9]]) (res := some (.inl (Int.negSucc 2147483647, Int.ofNat 2147483647))) (fq := []) (by omega) hm (xq_129 hE hC) (List.forall_mem_cons.mpr ⟨List.forall_mem_cons.mpr ⟨Or.inl (List.all_eq_true.mp xnPc_129 t9 t9m), fun _ h => absurd h List.not_mem_nil⟩, fun _ h => absurd h List.not_mem_nil⟩) ?_ (xnP_129 t9).1 (xnP_129 t9).2 ⟨_, List.Mem.head _, List.Mem.head _⟩ _ ph h0m ⟨fun q e => by cases e; exact ⟨_, rfl, xaRi rfl (by decide)⟩, fun q e => by cases e; exact ⟨_, rfl, xaI p0 p7⟩, fun q e => (by cases e), trivial⟩ xF0 hP g9
        intro v ph' a1 a2 a3 _
        obtain ⟨u, e, z, e2, -⟩ := a3
        exact ⟨z, by rw [e, e2], a1, a2⟩
      obtain ⟨v, ph', k1, r, k2, k3, k4⟩ := hrun
      subst k2
      exact ⟨r, ph', k1, k3, k4⟩
    · right
      obtain ⟨n, hn⟩ := h19
      refine ⟨133, Or.inr rfl, pm_Se_t ?_ n _ hn⟩
      refine .step (ks2 (ykc_129 (e := (2, .iload_n kF2, 0)) rfl) (v := .int y) (n := 1) rfl) ?_
      exact .step (ks4 (ykc_129 (e := (4, .tableswitch 113 0 5 #[40, 50, 60, 70, 80, 93], 40)) rfl) (xts_def (t := 133) (by omega) rfl)) .rf
  · exact Or.inr ⟨11, Or.inl rfl, pre _ 11 hz xbr0⟩

def xnP_130 (pc : Nat) : xnd × List Nat := ((pc, [some (.inr (.inr (.inl 31))), some (.inl (Int.ofNat 0, Int.ofNat 7)), none], [], 0, (Int.ofNat 0, [])), [])
set_option maxRecDepth 6000 in
theorem xnPc_130 : [48, 58, 67].all (fun pc => xnchk xX xsp_130_0 xt_130 [] [[xnP_130 pc]] (some (.inl (Int.negSucc 2147483647, Int.ofNat 2147483647))) [] 600 (xnP_130 pc)) = true := by decide +kernel
set_option maxRecDepth 6000 in
theorem xsw_130 {y : Int32} (h0 : 0 ≤ y.toInt) (h1 : y.toInt ≤ 2) : ∃ t, t ∈ [48, 58, 67] ∧ pm_br (.tableswitch 80 0 2 #[28, 38, 47]) 28 20 [.int y] = some (t, []) := by
  rcases (show y.toInt = 0 ∨ y.toInt = 1 ∨ y.toInt = 2 by omega) with h | h | h
  · have e : y = Int32.ofInt 0 := Int32.toInt_inj.mp (by rw [h]; decide)
    subst e
    exact ⟨48, by decide, by decide +kernel⟩
  · have e : y = Int32.ofInt 1 := Int32.toInt_inj.mp (by rw [h]; decide)
    subst e
    exact ⟨58, by decide, by decide +kernel⟩
  · have e : y = Int32.ofInt 2 := Int32.toInt_inj.mp (by rw [h]; decide)
    subst e
    exact ⟨67, by decide, by decide +kernel⟩
set_option maxRecDepth 6000 in
theorem xcl_thing {E : pm_H → Prop} (hE : xHE xX xgA_G8 xgF_G8 E) (hC : xPC E) {m : Int} (hm : m ≤ 2147483646) (h0m : (0 : Int) ≤ m) {D : Nat} (hD : 10 ≤ D) {ph : pm_H} {p y : Int32} (hP : xH xX kK m 0 ph) (g9 : E ph) : (∃ r ph', pm_Rd kK false (D + 1) 130 [.ref 0, .int p, .int y] ph (some (.int r), ph', 0, 0) ∧ xH xX kK m 0 ph' ∧ E ph') ∨ (∃ pc, (pc = 11 ∨ pc = 100) ∧ pm_Se kK false (pm_Rd kK false D) 130 (pm_ent kK 130 [.ref 0, .int p, .int y] ph) (pc, [some (.ref 0), some (.int p), some (.int y)], [], ph, 0, 0)) := by
  obtain ⟨fl0, hat0, hfl0⟩ := xO_at (a := 0) hP rfl rfl
  obtain ⟨v4, hv4, hv⟩ := hfl0 4 _ rfl
  have e4 : v4 = .ref 25 := xaO (m' := 0) (A := 25) hP rfl hv
  subst e4
  obtain ⟨fl1, hat1, -⟩ := xO_at (a := 25) hP rfl rfl
  obtain ⟨D', rfl⟩ : ∃ D', D = D' + 1 := ⟨D - 1, by omega⟩
  have pre : ∀ (z : Int32) (t : Nat), pm_Rd kK false (D' + 1) 107 [.ref 25, .int p] ph (some (.int z), ph, 0, 0) → pm_br (.ifCond .ne 11) 19 8 [.int z] = some (t, []) → pm_Se kK false (pm_Rd kK false (D' + 1)) 130 (pm_ent kK 130 [.ref 0, .int p, .int y] ph) (t, [some (.ref 0), some (.int p), some (.int y)], [], ph, 0, 0) := fun z t hz ht => by
    show pm_Se kK false (pm_Rd kK false (D' + 1)) 130 (0, [some (.ref 0), some (.int p), some (.int y)], [], ph, 0, 0) _
    refine .step (ks2 (ykc_130 (e := (2, .aload_n kF0, 0)) rfl) (v := .ref 0) (n := 1) rfl) ?_
    refine .step (xgfs (ykc_130 (e := (5, .getfield 42, 0)) rfl) rfl hat0 hv4) ?_
    refine .step (ks2 (ykc_130 (e := (2, .iload_n kF1, 0)) rfl) (v := .int p) (n := 1) rfl) ?_
    refine .call (ks6 (ykc_130 (e := (6, .invokevirtual 198, 0)) rfl) (xinvV rfl rfl hat1 rfl rfl)) hz ?_
    exact .step (ks4 (ykc_130 (e := (4, .ifCond .ne 11, 19)) rfl) ht) .rf
  rcases xhas_107 (D := D') (p := p) hP with ⟨hz, p0, p7⟩ | hz
  · have h19 := pre _ 19 hz xbr1
    by_cases hy : 0 ≤ y.toInt ∧ y.toInt ≤ 2
    · left
      have hrun : ∃ v ph', pm_Rd kK false (D' + 1 + 1) 130 [.ref 0, .int p, .int y] ph (v, ph', 0, 0) ∧ (∃ r : Int32, v = some (.int r) ∧ xH xX kK m 0 ph' ∧ E ph') := by
        obtain ⟨t9, t9m, t9b⟩ := xsw_130 hy.1 hy.2
        refine xRd_mk (nl := 3) rfl rfl (xGT_se h19 (gt_load (v := .int y) (n := 1) (ykc_130 (e := (2, .iload_n kF2, 0)) rfl) rfl rfl (gt_br (ykc_130 (e := (4, .tableswitch 80 0 2 #[28, 38, 47], 28)) rfl) t9b ?_)))
        refine xseg_ok (ns := [[xnP_130 t9]]) (res := some (.inl (Int.negSucc 2147483647, Int.ofNat 2147483647))) (fq := []) (by omega) hm (xq_130 hE hC) (List.forall_mem_cons.mpr ⟨List.forall_mem_cons.mpr ⟨Or.inl (List.all_eq_true.mp xnPc_130 t9 t9m), fun _ h => absurd h List.not_mem_nil⟩, fun _ h => absurd h List.not_mem_nil⟩) ?_ (xnP_130 t9).1 (xnP_130 t9).2 ⟨_, List.Mem.head _, List.Mem.head _⟩ _ ph h0m ⟨fun q e => by cases e; exact ⟨_, rfl, xaRi rfl (by decide)⟩, fun q e => by cases e; exact ⟨_, rfl, xaI p0 p7⟩, fun q e => (by cases e), trivial⟩ xF0 hP g9
        intro v ph' a1 a2 a3 _
        obtain ⟨u, e, z, e2, -⟩ := a3
        exact ⟨z, by rw [e, e2], a1, a2⟩
      obtain ⟨v, ph', k1, r, k2, k3, k4⟩ := hrun
      subst k2
      exact ⟨r, ph', k1, k3, k4⟩
    · right
      obtain ⟨n, hn⟩ := h19
      refine ⟨100, Or.inr rfl, pm_Se_t ?_ n _ hn⟩
      refine .step (ks2 (ykc_130 (e := (2, .iload_n kF2, 0)) rfl) (v := .int y) (n := 1) rfl) ?_
      exact .step (ks4 (ykc_130 (e := (4, .tableswitch 80 0 2 #[28, 38, 47], 28)) rfl) (xts_def (t := 100) (by omega) rfl)) .rf
  · exact Or.inr ⟨11, Or.inl rfl, pre _ 11 hz xbr0⟩

def xnP_180 : xnd × List Nat := ((23, [some (.inr (.inr (.inl 31))), some (.inl (Int.ofNat 0, Int.ofNat 48))], [], 0, (Int.ofNat 0, [])), [])
set_option maxRecDepth 6000 in
theorem xnPc_180 : xnchk xX xsp_180_0 xt_180 [] [[xnP_180]] (some (.inr (.inl (Int.negSucc 9223372036854775807, Int.ofNat 9223372036854775807)))) [] 600 xnP_180 = true := by decide +kernel
set_option maxRecDepth 6000 in
theorem xsize_59 {m : Int} {w D : Nat} {ph : pm_H} (hP : xH xX kK m w ph) : ∃ z : Int32, pm_Rd kK false (D + 1) 59 [.ref 3] ph (some (.int z), ph, 0, 0) ∧ 0 ≤ z.toInt ∧ z.toInt ≤ 49 := by
  obtain ⟨fl, hat, hfl⟩ := xO_at (a := 3) hP rfl rfl
  obtain ⟨v, hv, P, e, h0, h1⟩ := hfl 1 _ rfl
  subst e
  refine ⟨P, ⟨rfl, 3, ?_⟩, h0, h1⟩
  have he : pm_ent kK 59 [.ref 3] ph = (0, [some (.ref 3)], [], ph, 0, 0) := rfl
  rw [he, pm_Tn, ks2 (ykc_59 (e := (2, .aload_n kF0, 0)) rfl) (v := .ref 3) (n := 1) rfl]
  simp only
  rw [pm_Tn, xgfs (ykc_59 (e := (5, .getfield 15, 0)) rfl) rfl hat hv]
  simp only
  rw [pm_Tn, ks7 (ykc_59 (e := (7, .ireturn, 0)) rfl) (v := some (.int P)) rfl]
set_option maxRecDepth 6000 in
theorem xcl_row {E : pm_H → Prop} (hE : xHE xX xgA_G8 xgF_G8 E) {m : Int} (hm : m ≤ 2147483646) (h0m : (0 : Int) ≤ m) {D : Nat} (hD : 10 ≤ D) {ph : pm_H} {p : Int32} (hP : xH xX kK m 0 ph) (g9 : E ph) : (∃ r ph', pm_Rd kK false (D + 1) 180 [.ref 0, .int p] ph (some (.long r), ph', 0, 0) ∧ xH xX kK m 0 ph' ∧ E ph') ∨ pm_Se kK false (pm_Rd kK false D) 180 (pm_ent kK 180 [.ref 0, .int p] ph) (15, [some (.ref 0), some (.int p)], [], ph, 0, 0) := by
  obtain ⟨fl0, hat0, hfl0⟩ := xO_at (a := 0) hP rfl rfl
  obtain ⟨v4, hv4, hv⟩ := hfl0 1 _ rfl
  have e4 : v4 = .ref 3 := xaO (m' := 0) (A := 3) hP rfl hv
  subst e4
  obtain ⟨fl1, hat1, -⟩ := xO_at (a := 3) hP rfl rfl
  obtain ⟨D', rfl⟩ : ∃ D', D = D' + 1 := ⟨D - 1, by omega⟩
  by_cases h0 : p.toInt < 0
  · right
    show pm_Se kK false (pm_Rd kK false (D' + 1)) 180 (0, [some (.ref 0), some (.int p)], [], ph, 0, 0) _
    refine .step (ks2 (ykc_180 (e := (2, .iload_n kF1, 0)) rfl) (v := .int p) (n := 1) rfl) ?_
    exact .step (ks4 (ykc_180 (e := (4, .ifCond .lt 14, 15)) rfl) (show some (bif decide (p < 0) then 15 else 1 + 3, []) = _ by rw [decide_eq_true (Int32.lt_iff_toInt_lt.mpr h0)]; rfl)) .rf
  · obtain ⟨z, hz, z0, z1⟩ := xsize_59 (D := D') hP
    have pre : ∀ (t : Nat), pm_br (.if_icmp .lt 11) 23 12 [.int z, .int p] = some (t, []) → pm_Se kK false (pm_Rd kK false (D' + 1)) 180 (pm_ent kK 180 [.ref 0, .int p] ph) (t, [some (.ref 0), some (.int p)], [], ph, 0, 0) := fun t ht => by
      show pm_Se kK false (pm_Rd kK false (D' + 1)) 180 (0, [some (.ref 0), some (.int p)], [], ph, 0, 0) _
      refine .step (ks2 (ykc_180 (e := (2, .iload_n kF1, 0)) rfl) (v := .int p) (n := 1) rfl) ?_
      refine .step (ks4 (pc' := 4) (st' := []) (ykc_180 (e := (4, .ifCond .lt 14, 15)) rfl) (show some (bif decide (p < 0) then 15 else 1 + 3, []) = _ by rw [decide_eq_false (fun q => h0 (Int32.lt_iff_toInt_lt.mp q))]; rfl)) ?_
      refine .step (ks2 (ykc_180 (e := (2, .iload_n kF1, 0)) rfl) (v := .int p) (n := 1) rfl) ?_
      refine .step (ks2 (ykc_180 (e := (2, .aload_n kF0, 0)) rfl) (v := .ref 0) (n := 1) rfl) ?_
      refine .step (xgfs (ykc_180 (e := (5, .getfield 19, 0)) rfl) rfl hat0 hv4) ?_
      refine .call (ks6 (ykc_180 (e := (6, .invokevirtual 423, 0)) rfl) (xinvV rfl rfl hat1 rfl rfl)) hz ?_
      exact .step (ks4 (ykc_180 (e := (4, .if_icmp .lt 11, 23)) rfl) ht) .rf
    by_cases h1 : p.toInt < z.toInt
    · left
      have h23 := pre 23 (show some (bif decide (p < z) then 23 else 12 + 3, []) = _ by rw [decide_eq_true (Int32.lt_iff_toInt_lt.mpr h1)]; rfl)
      have hrun : ∃ v ph', pm_Rd kK false (D' + 1 + 1) 180 [.ref 0, .int p] ph (v, ph', 0, 0) ∧ (∃ r : Int64, v = some (.long r) ∧ xH xX kK m 0 ph' ∧ E ph') := by
        refine xRd_mk (nl := 2) rfl rfl (xGT_se h23 ?_)
        refine xseg_ok (ns := [[xnP_180]]) (res := some (.inr (.inl (Int.negSucc 9223372036854775807, Int.ofNat 9223372036854775807)))) (fq := []) (by omega) hm (xq_180) (List.forall_mem_cons.mpr ⟨List.forall_mem_cons.mpr ⟨Or.inl xnPc_180, fun _ h => absurd h List.not_mem_nil⟩, fun _ h => absurd h List.not_mem_nil⟩) ?_ xnP_180.1 xnP_180.2 ⟨_, List.Mem.head _, List.Mem.head _⟩ _ ph h0m ⟨fun q e => by cases e; exact ⟨_, rfl, xaRi rfl (by decide)⟩, fun q e => by cases e; exact ⟨_, rfl, xaI (show (0 : Int) ≤ p.toInt by omega) (show p.toInt ≤ 48 by omega)⟩, trivial⟩ xF0 hP g9
        intro v ph' a1 a2 a3 _
        obtain ⟨u, e, z, e2, -⟩ := a3
        exact ⟨z, by rw [e, e2], a1, a2⟩
      obtain ⟨v, ph', k1, r, k2, k3, k4⟩ := hrun
      subst k2
      exact ⟨r, ph', k1, k3, k4⟩
    · right
      exact pre 15 (show some (bif decide (p < z) then 23 else 12 + 3, []) = _ by rw [decide_eq_false (fun q => h1 (Int32.lt_iff_toInt_lt.mp q))]; rfl)

