/-! readsRule, laysCode, rule, by hand, printed by wip/x/h_rr.py -/
set_option maxRecDepth 6000 in
theorem xm1 : (Int32.ofInt (-1)).toInt = -1 := by decide
set_option maxRecDepth 6000 in
theorem x40 : ((Int8.ofInt 40).toInt32).toInt = 40 := by decide
def xiN (ph : pm_H) (k : Nat) (n : Nat) : Prop := ∃ x : Int32, xget ph 170 k = some (.int x) ∧ x.toInt = (n : Int)
def xbgQ : List (Option xh × List (Nat × xh)) := [(some (.inl (0, 80)), [(696334, .inl (0, 0)), (696335, .inl (0, 0)), (696336, .inl (0, 40)), (696337, .inl (0, 0))])]
set_option maxRecDepth 6000 in
theorem xbg_all : xs_195 (xhmV 1 [.inr (.inr (.inl 0)), .inl (40, 40)]) (xrsA xX xbgQ) (3, [], [], xhmF 3 [], 0, []) = true := by decide +kernel
set_option maxRecDepth 6000 in
theorem xbegin {E : pm_H → Prop} (hE : xHE xX xgA_G73 xgF_G73 E) {m : Int} (hm : m ≤ 2147483646) (h0m : (0 : Int) ≤ m) {D : Nat} (hD : 1 ≤ D) {ph : pm_H} {y : Int32} (hy : y.toInt = 40) (hP : xH xX kK m 0 ph) (g9 : E ph) : ∃ v ph', pm_Rd kK false D 195 [.ref 170, .int y] ph (v, ph', 0, 0) ∧ (∃ (z : Int32) (T : Nat), v = some (.int z) ∧ xH xX kK m 0 ph' ∧ E ph' ∧ 0 ≤ z.toInt ∧ xiN ph' 14 0 ∧ xiN ph' 15 0 ∧ xiN ph' 16 T ∧ xiN ph' 17 0 ∧ T ≤ 40) := by
  have hE2 : xHE xX xgA_G61 xgF_G61 E := xHE_sub (by decide +kernel) (by decide +kernel) hE
  obtain ⟨v, ph', k1, k2, k3, q, hq, k4, k5⟩ := xcok_alt (fp := []) (xso_195 hE2) xbg_all D hD m hm h0m [.ref 170, .int y] ph ⟨xaRi rfl (by decide), xaI (by omega) (by omega), trivial⟩ xF0 hP g9
  have e := List.mem_singleton.mp hq
  subst e
  obtain ⟨u, e, z, e2, z0, z1⟩ := k4
  obtain ⟨x1, a1, b1, c1⟩ := xF_in (a := 170) (c := 14) k5 List.mem_cons_self (by decide) (by decide)
  obtain ⟨x2, a2, b2, c2⟩ := xF_in (a := 170) (c := 15) k5 (List.mem_cons_of_mem _ List.mem_cons_self) (by decide) (by decide)
  obtain ⟨x3, a3, b3, c3⟩ := xF_in (a := 170) (c := 16) k5 (List.mem_cons_of_mem _ (List.mem_cons_of_mem _ List.mem_cons_self)) (by decide) (by decide)
  obtain ⟨x4, a4, b4, c4⟩ := xF_in (a := 170) (c := 17) k5 (List.mem_cons_of_mem _ (List.mem_cons_of_mem _ (List.mem_cons_of_mem _ List.mem_cons_self))) (by decide) (by decide)
  exact ⟨v, ph', k1, z, x3.toInt.toNat, by rw [e, e2], k2, k3, z0, ⟨x1, a1, by omega⟩, ⟨x2, a2, by omega⟩, ⟨x3, a3, by omega⟩, ⟨x4, a4, by omega⟩, by omega⟩

set_option maxRecDepth 6000 in
theorem xft_44 {m : Int} {D : Nat} {ph : pm_H} {Q : Option Value → pm_H → Prop} {z y b w xa : Int32} (hP : xH xX kK m 0 ph) (q15 : xget ph 170 15 = some (.int xa)) (hxa : 0 ≤ xa.toInt ∧ xa.toInt ≤ 80) (hy : y.toInt = 40) (hw0 : w.toInt ≠ 0 → b.toInt ≠ 0) (hQ : ∀ r : Int32, r.toInt ≤ 0 → (r.toInt = 0 → b.toInt ≠ 0) → Q (some (.int r)) ph) : xGT kK D 201 Q (44, [some (.ref 170), some (.int z), some (.int y), some (.int b), some (.int w)], [], ph, 0, 0) := by
  by_cases hw : w.toInt = 0
  · refine gt_load (v := .int w) (n := 2) (ykc_201 (e := (2, .iload 4, 0)) rfl) rfl rfl ?_
    refine gt_zeq_t (ykc_201 (e := (4, .ifCond .eq 7, 53)) rfl) hw ?_
    refine gt_alu (st' := [.int (Int32.ofInt (-1))]) (ykc_201 (e := (0, .iconst (-1), 0)) rfl) rfl rfl ?_
    refine gt_load (v := .ref 170) (n := 1) (ykc_201 (e := (2, .aload_n kF0, 0)) rfl) rfl rfl ?_
    refine gt_gfk (v := .int xa) (ykc_201 (e := (5, .getfield 139, 0)) rfl) rfl hP q15 rfl ?_
    obtain ⟨r1, e_r1, h_r1⟩ : ∃ zq : Int32, (Int32.ofInt (-1)) - xa = zq ∧ zq.toInt = -1 - xa.toInt := ⟨_, rfl, by rw [ti_sub (by rw [xm1]; omega) (by rw [xm1]; omega), xm1]⟩
    refine gt_alu (st' := [.int r1]) (ykc_201 (e := (0, .isub, 0)) rfl) (by rw [← e_r1]; exact rfl) rfl ?_
    refine gt_ret (ykc_201 (e := (7, .ireturn, 0)) rfl) rfl ?_
    exact hQ _ (by omega) (fun q => by omega)
  · refine gt_load (v := .int w) (n := 2) (ykc_201 (e := (2, .iload 4, 0)) rfl) rfl rfl ?_
    refine gt_zeq_f (ykc_201 (e := (4, .ifCond .eq 7, 53)) rfl) hw rfl ?_
    refine gt_alu (st' := [.int (Int32.ofInt 0)]) (ykc_201 (e := (0, .iconst 0, 0)) rfl) rfl rfl ?_
    refine gt_br (pc' := 59) (st' := [.int (Int32.ofInt 0)]) (ykc_201 (e := (4, .goto 9, 59)) rfl) rfl ?_
    refine gt_ret (ykc_201 (e := (7, .ireturn, 0)) rfl) rfl ?_
    exact hQ _ (by decide) (fun _ => hw0 hw)

set_option maxRecDepth 6000 in
theorem xft_40 {m : Int} {D : Nat} {ph : pm_H} {Q : Option Value → pm_H → Prop} {z y b w xa : Int32} (hP : xH xX kK m 0 ph) (q15 : xget ph 170 15 = some (.int xa)) (hxa : 0 ≤ xa.toInt ∧ xa.toInt ≤ 80) (hy : y.toInt = 40) (hw : w.toInt ≠ 0 → b.toInt ≠ 0) (hQ : ∀ r : Int32, r.toInt ≤ 0 → (r.toInt = 0 → b.toInt ≠ 0) → Q (some (.int r)) ph) : xGT kK D 201 Q (40, [some (.ref 170), some (.int z), some (.int y), some (.int b), some (.int w)], [], ph, 0, 0) := by
  refine gt_alu (st' := [.int (Int32.ofInt (-1))]) (ykc_201 (e := (0, .iconst (-1), 0)) rfl) rfl rfl ?_
  refine gt_load (v := .int y) (n := 1) (ykc_201 (e := (2, .iload_n kF2, 0)) rfl) rfl rfl ?_
  obtain ⟨r1, e_r1, h_r1⟩ : ∃ zq : Int32, (Int32.ofInt (-1)) - y = zq ∧ zq.toInt = -1 - y.toInt := ⟨_, rfl, by rw [ti_sub (by rw [xm1]; omega) (by rw [xm1]; omega), xm1]⟩
  refine gt_alu (st' := [.int r1]) (ykc_201 (e := (0, .isub, 0)) rfl) (by rw [← e_r1]; exact rfl) rfl ?_
  refine gt_ret (ykc_201 (e := (7, .ireturn, 0)) rfl) rfl ?_
  exact hQ _ (by omega) (fun q => by omega)
set_option maxRecDepth 6000 in
theorem xft_22 {m : Int} {D : Nat} {ph : pm_H} {Q : Option Value → pm_H → Prop} {z y b w xa : Int32} (hP : xH xX kK m 0 ph) (q15 : xget ph 170 15 = some (.int xa)) (hxa : 0 ≤ xa.toInt ∧ xa.toInt ≤ 80) (hy : y.toInt = 40) (hw : w.toInt ≠ 0 → b.toInt ≠ 0) (hQ : ∀ r : Int32, r.toInt ≤ 0 → (r.toInt = 0 → b.toInt ≠ 0) → Q (some (.int r)) ph) : xGT kK D 201 Q (22, [some (.ref 170), some (.int z), some (.int y), some (.int b), some (.int w)], [], ph, 0, 0) := by
  by_cases hz : z.toInt ≤ y.toInt
  · refine gt_load (v := .int z) (n := 1) (ykc_201 (e := (2, .iload_n kF1, 0)) rfl) rfl rfl ?_
    refine gt_load (v := .int y) (n := 1) (ykc_201 (e := (2, .iload_n kF2, 0)) rfl) rfl rfl ?_
    refine gt_ile_t (ykc_201 (e := (4, .if_icmp .le 20, 44)) rfl) hz ?_
    exact xft_44 hP q15 hxa hy hw hQ
  · refine gt_load (v := .int z) (n := 1) (ykc_201 (e := (2, .iload_n kF1, 0)) rfl) rfl rfl ?_
    refine gt_load (v := .int y) (n := 1) (ykc_201 (e := (2, .iload_n kF2, 0)) rfl) rfl rfl ?_
    refine gt_ile_f (ykc_201 (e := (4, .if_icmp .le 20, 44)) rfl) (by omega) rfl ?_
    refine gt_load (v := .int w) (n := 2) (ykc_201 (e := (2, .iload 4, 0)) rfl) rfl rfl ?_
    by_cases hw1 : w.toInt = 0
    · by_cases hlt : xa.toInt < y.toInt
      · refine gt_zne_f (ykc_201 (e := (4, .ifCond .ne 11, 40)) rfl) hw1 rfl ?_
        refine gt_load (v := .ref 170) (n := 1) (ykc_201 (e := (2, .aload_n kF0, 0)) rfl) rfl rfl ?_
        refine gt_gfk (v := .int xa) (ykc_201 (e := (5, .getfield 139, 0)) rfl) rfl hP q15 rfl ?_
        refine gt_load (v := .int y) (n := 1) (ykc_201 (e := (2, .iload_n kF2, 0)) rfl) rfl rfl ?_
        refine gt_ilt_t (ykc_201 (e := (4, .if_icmp .lt 7, 44)) rfl) hlt ?_
        exact xft_44 hP q15 hxa hy hw hQ
      · refine gt_zne_f (ykc_201 (e := (4, .ifCond .ne 11, 40)) rfl) hw1 rfl ?_
        refine gt_load (v := .ref 170) (n := 1) (ykc_201 (e := (2, .aload_n kF0, 0)) rfl) rfl rfl ?_
        refine gt_gfk (v := .int xa) (ykc_201 (e := (5, .getfield 139, 0)) rfl) rfl hP q15 rfl ?_
        refine gt_load (v := .int y) (n := 1) (ykc_201 (e := (2, .iload_n kF2, 0)) rfl) rfl rfl ?_
        refine gt_ilt_f (ykc_201 (e := (4, .if_icmp .lt 7, 44)) rfl) (by omega) rfl ?_
        exact xft_40 hP q15 hxa hy hw hQ
    · refine gt_zne_t (ykc_201 (e := (4, .ifCond .ne 11, 40)) rfl) hw1 ?_
      exact xft_40 hP q15 hxa hy hw hQ

set_option maxRecDepth 6000 in
theorem xfault {m : Int} {D : Nat} {ph : pm_H} {z y b xa xt : Int32} (hP : xH xX kK m 0 ph) (q15 : xget ph 170 15 = some (.int xa)) (q16 : xget ph 170 16 = some (.int xt)) (hxa : 0 ≤ xa.toInt ∧ xa.toInt ≤ 80) (hy : y.toInt = 40) : ∃ v ph', pm_Rd kK false (D + 1) 201 [.ref 170, .int z, .int y, .int b] ph (v, ph', 0, 0) ∧ (ph = ph' ∧ ∃ r : Int32, v = some (.int r) ∧ r.toInt ≤ 0 ∧ (r.toInt = 0 → b.toInt ≠ 0)) := by
  refine xRd_mk (nl := 5) rfl rfl ?_
  show xGT kK D 201 _ (0, [some (.ref 170), some (.int z), some (.int y), some (.int b), none], [], ph, 0, 0)
  have hQ : ∀ r : Int32, r.toInt ≤ 0 → (r.toInt = 0 → b.toInt ≠ 0) → (fun (v : Option Value) (ph' : pm_H) => ph = ph' ∧ ∃ r : Int32, v = some (.int r) ∧ r.toInt ≤ 0 ∧ (r.toInt = 0 → b.toInt ≠ 0)) (some (.int r)) ph := fun r h1 h2 => ⟨rfl, r, rfl, h1, h2⟩
  by_cases hb : b.toInt = 0
  · refine gt_load (v := .int b) (n := 1) (ykc_201 (e := (2, .iload_n kF3, 0)) rfl) rfl rfl ?_
    refine gt_zeq_t (ykc_201 (e := (4, .ifCond .eq 18, 19)) rfl) hb ?_
    refine gt_alu (st' := [.int (Int32.ofInt 0)]) (ykc_201 (e := (0, .iconst 0, 0)) rfl) rfl rfl ?_
    refine gt_store (L' := [some (.ref 170), some (.int z), some (.int y), some (.int b), some (.int (Int32.ofInt 0))]) (st' := []) (n := 2) (ykc_201 (e := (3, .istore 4, 0)) rfl) rfl rfl ?_
    exact xft_22 hP q15 hxa hy (fun q => absurd (by decide) q) hQ
  · by_cases he : xa.toInt = xt.toInt
    · refine gt_load (v := .int b) (n := 1) (ykc_201 (e := (2, .iload_n kF3, 0)) rfl) rfl rfl ?_
      refine gt_zeq_f (ykc_201 (e := (4, .ifCond .eq 18, 19)) rfl) hb rfl ?_
      refine gt_load (v := .ref 170) (n := 1) (ykc_201 (e := (2, .aload_n kF0, 0)) rfl) rfl rfl ?_
      refine gt_gfk (v := .int xa) (ykc_201 (e := (5, .getfield 139, 0)) rfl) rfl hP q15 rfl ?_
      refine gt_load (v := .ref 170) (n := 1) (ykc_201 (e := (2, .aload_n kF0, 0)) rfl) rfl rfl ?_
      refine gt_gfk (v := .int xt) (ykc_201 (e := (5, .getfield 151, 0)) rfl) rfl hP q16 rfl ?_
      refine gt_ine_f (ykc_201 (e := (4, .if_icmp .ne 7, 19)) rfl) (by omega) rfl ?_
      refine gt_alu (st' := [.int (Int32.ofInt 1)]) (ykc_201 (e := (0, .iconst 1, 0)) rfl) rfl rfl ?_
      refine gt_br (pc' := 20) (st' := [.int (Int32.ofInt 1)]) (ykc_201 (e := (4, .goto 4, 20)) rfl) rfl ?_
      refine gt_store (L' := [some (.ref 170), some (.int z), some (.int y), some (.int b), some (.int (Int32.ofInt 1))]) (st' := []) (n := 2) (ykc_201 (e := (3, .istore 4, 0)) rfl) rfl rfl ?_
      exact xft_22 hP q15 hxa hy (fun _ => hb) hQ
    · refine gt_load (v := .int b) (n := 1) (ykc_201 (e := (2, .iload_n kF3, 0)) rfl) rfl rfl ?_
      refine gt_zeq_f (ykc_201 (e := (4, .ifCond .eq 18, 19)) rfl) hb rfl ?_
      refine gt_load (v := .ref 170) (n := 1) (ykc_201 (e := (2, .aload_n kF0, 0)) rfl) rfl rfl ?_
      refine gt_gfk (v := .int xa) (ykc_201 (e := (5, .getfield 139, 0)) rfl) rfl hP q15 rfl ?_
      refine gt_load (v := .ref 170) (n := 1) (ykc_201 (e := (2, .aload_n kF0, 0)) rfl) rfl rfl ?_
      refine gt_gfk (v := .int xt) (ykc_201 (e := (5, .getfield 151, 0)) rfl) rfl hP q16 rfl ?_
      refine gt_ine_t (ykc_201 (e := (4, .if_icmp .ne 7, 19)) rfl) he ?_
      refine gt_alu (st' := [.int (Int32.ofInt 0)]) (ykc_201 (e := (0, .iconst 0, 0)) rfl) rfl rfl ?_
      refine gt_store (L' := [some (.ref 170), some (.int z), some (.int y), some (.int b), some (.int (Int32.ofInt 0))]) (st' := []) (n := 2) (ykc_201 (e := (3, .istore 4, 0)) rfl) rfl rfl ?_
      exact xft_22 hP q15 hxa hy (fun _ => hb) hQ

set_option maxRecDepth 6000 in
theorem xrrule {E : pm_H → Prop} (hE : xHE xX xgA_G73 xgF_G73 E) {m : Int} (hm : m ≤ 2147483646) (h0m : (0 : Int) ≤ m) {D : Nat} (hD : 100 ≤ D) {ph : pm_H} (hP : xH xX kK m 0 ph) (g9 : E ph) : ∃ v ph', pm_Rd kK false D 215 [.ref 170] ph (v, ph', 0, 0) ∧ (∃ (z : Int32) (c : Nat) (l : List Int32), v = some (.int z) ∧ xH xX kK m 0 ph' ∧ E ph' ∧ z.toInt ≤ 0 ∧ c ≤ 40 ∧ xiN ph' 24 c ∧ xiN ph' 14 0 ∧ pm_at ph' 180 = some (.inl (0, .inl l)) ∧ l.length = 80 ∧ (z.toInt = 0 → xvc (l.take c) 0 = true)) := by
  obtain ⟨D', rfl⟩ : ∃ D', D = D' + 1 + 1 := ⟨D - 2, by omega⟩
  have hE1 := hE
  have g9x := g9
  have hE2 : xHE xX xgA_RR xgF_RR (fun p => E p ∧ xiN p 14 0) := fun p p' hs hp => ⟨(xHE_sub (gA' := xgA_RR) (gF' := xgF_RR) (by decide +kernel) (by decide +kernel) hE) p p' hs hp.1, by
    obtain ⟨x, h1, h2⟩ := hp.2
    exact ⟨x, (hs.2 170 0 14 rfl List.mem_cons_self).symm.trans h1, h2⟩⟩
  refine xRd_mk (nl := 3) rfl rfl ?_
  show xGT kK (D' + 1) 215 _ (0, [some (.ref 170), none, none], [], ph, 0, 0)
  refine gt_load (v := .ref 170) (n := 1) (ykc_215 (e := (2, .aload_n kF0, 0)) rfl) rfl rfl ?_
  refine gt_push (v := .int ((Int8.ofInt 40).toInt32)) (n := 2) (ykc_215 (e := (1, .bipush 40, 0)) rfl) rfl rfl ?_
  refine gt_cv (n := 1) (as := [.ref 170, .int ((Int8.ofInt 40).toInt32)]) (r := []) (ykc_215 (e := (6, .invokevirtual 175, 0)) rfl) rfl hP rfl rfl rfl (xbegin hE1 hm h0m (by omega) x40 hP g9x) rfl (fun vv ph1 hv => ?_)
  obtain ⟨z1, T, e9, hP1, g91, hz1, qt, qa, qT, qn, hT⟩ := hv; subst e9
  change xGT kK (D' + 1) 215 _ (6, [some (.ref 170), none, none], [.int z1], ph1, 0, 0)
  refine gt_store (L' := [some (.ref 170), some (.int z1), none]) (st' := []) (n := 1) (ykc_215 (e := (3, .istore_n kF1, 0)) rfl) rfl rfl ?_
  refine gt_load (v := .ref 170) (n := 1) (ykc_215 (e := (2, .aload_n kF0, 0)) rfl) rfl rfl ?_
  refine gt_alu (st' := [.int (Int32.ofInt 0), .ref 170]) (ykc_215 (e := (0, .iconst 0, 0)) rfl) rfl rfl ?_
  refine gt_pf (y := Int32.ofInt 0) (ykc_215 (e := (5, .putfield 227, 0)) rfl) rfl hP1 rfl rfl (by decide) (by decide) rfl (fun ph2 hP2 u2 => ?_)
  obtain ⟨l, hat, hlen, -⟩ := xA_at (A := 180) hP2 rfl rfl
  obtain ⟨xt0, qt1, et1⟩ := qt
  obtain ⟨xa, qa1, ea1⟩ := qa
  obtain ⟨xT, qT1, eT1⟩ := qT
  obtain ⟨xn, qn1, en1⟩ := qn
  have qt2 : xget ph2 170 14 = some (.int xt0) := (u2.2.1 170 14 (by decide)).trans qt1
  have qa2 : xget ph2 170 15 = some (.int xa) := (u2.2.1 170 15 (by decide)).trans qa1
  have qT2 : xget ph2 170 16 = some (.int xT) := (u2.2.1 170 16 (by decide)).trans qT1
  have qn2 : xget ph2 170 17 = some (.int xn) := (u2.2.1 170 17 (by decide)).trans qn1
  have g2 : E ph2 ∧ xiN ph2 14 0 := ⟨xu1_E hE1 u2 rfl rfl rfl g91, xt0, qt2, et1⟩
  have hs2 : xps ph2 T 0 0 0 l := ⟨⟨xa, qa2, ea1⟩, ⟨xT, qT2, eT1⟩, ⟨xn, qn2, en1⟩, ⟨_, u2.1, by decide⟩, hat, hlen⟩
  by_cases hq1 : z1.toInt = 0
  · refine gt_load (v := .int z1) (n := 1) (ykc_215 (e := (2, .iload_n kF1, 0)) rfl) rfl rfl ?_
    refine gt_zeq_t (ykc_215 (e := (4, .ifCond .eq 11, 24)) rfl) hq1 ?_
    refine gt_alu (st' := [.int (Int32.ofInt 1)]) (ykc_215 (e := (0, .iconst 1, 0)) rfl) rfl rfl ?_
    refine gt_br (pc' := 29) (st' := [.int (Int32.ofInt 1)]) (ykc_215 (e := (4, .goto 4, 29)) rfl) rfl ?_
    refine gt_store (L' := [some (.ref 170), some (.int z1), some (.int (Int32.ofInt 1))]) (st' := []) (n := 1) (ykc_215 (e := (3, .istore_n kF2, 0)) rfl) rfl rfl ?_
    refine gt_load (v := .ref 170) (n := 1) (ykc_215 (e := (2, .aload_n kF0, 0)) rfl) rfl rfl ?_
    refine gt_load (v := .int z1) (n := 1) (ykc_215 (e := (2, .iload_n kF1, 0)) rfl) rfl rfl ?_
    refine gt_push (v := .int ((Int8.ofInt 40).toInt32)) (n := 2) (ykc_215 (e := (1, .bipush 40, 0)) rfl) rfl rfl ?_
    refine gt_load (v := .int (Int32.ofInt 1)) (n := 1) (ykc_215 (e := (2, .iload_n kF2, 0)) rfl) rfl rfl ?_
    refine gt_cv (n := 3) (as := [.ref 170, .int z1, .int ((Int8.ofInt 40).toInt32), .int (Int32.ofInt 1)]) (r := []) (ykc_215 (e := (6, .invokevirtual 213, 0)) rfl) rfl hP2 rfl rfl rfl (xfault (D := D') hP2 qa2 qT2 (by omega) x40) rfl (fun vv ph103 hv => ?_)
    obtain ⟨e8, r, e9, hr1, hr2⟩ := hv; subst e8; subst e9
    change xGT kK (D' + 1) 215 _ (38, [some (.ref 170), some (.int z1), some (.int (Int32.ofInt 1))], [.int r], ph2, 0, 0)
    refine gt_ret (ykc_215 (e := (7, .ireturn, 0)) rfl) rfl ?_
    exact ⟨r, 0, l, rfl, hP2, g2.1, hr1, by omega, ⟨_, u2.1, by decide⟩, g2.2, hat, hlen, fun _ => by rw [List.take_zero]; rfl⟩
  · refine gt_load (v := .int z1) (n := 1) (ykc_215 (e := (2, .iload_n kF1, 0)) rfl) rfl rfl ?_
    refine gt_zeq_f (ykc_215 (e := (4, .ifCond .eq 11, 24)) rfl) hq1 rfl ?_
    refine gt_load (v := .ref 170) (n := 1) (ykc_215 (e := (2, .aload_n kF0, 0)) rfl) rfl rfl ?_
    refine gt_alu (st' := [.int (Int32.ofInt 0), .ref 170]) (ykc_215 (e := (0, .iconst 0, 0)) rfl) rfl rfl ?_
    refine gt_cv (n := 1) (as := [.ref 170, .int (Int32.ofInt 0)]) (r := []) (ykc_215 (e := (6, .invokevirtual 239, 0)) rfl) rfl hP2 rfl rfl rfl ((xread_all hE2 hm h0m 70).2 (D' + 1) ph2 T 0 0 0 0 _ l (by omega) hP2 g2 hs2 (by omega) hT (by omega) (by omega) (by decide) (by omega) (by omega)) rfl (fun vv ph103 hv => ?_)
    obtain ⟨z3, a3, n3, c3, l3, e9, hP3, g93, hs3, hr3⟩ := hv; subst e9
    change xGT kK (D' + 1) 215 _ (21, [some (.ref 170), some (.int z1), none], [.int z3], ph103, 0, 0)
    obtain ⟨⟨xa3, qa3, ea3⟩, ⟨xT3, qT3, eT3⟩, -, ⟨xc3, qc3, ec3⟩, hat3, hlen3⟩ := id hs3
    obtain ⟨b1, b2, b3, b4, b5, b6, b7⟩ := hr3
    by_cases hq3 : z3.toInt = 0
    · refine gt_zeq_t (ykc_215 (e := (4, .ifCond .eq 7, 28)) rfl) hq3 ?_
      refine gt_alu (st' := [.int (Int32.ofInt 0)]) (ykc_215 (e := (0, .iconst 0, 0)) rfl) rfl rfl ?_
      refine gt_store (L' := [some (.ref 170), some (.int z1), some (.int (Int32.ofInt 0))]) (st' := []) (n := 1) (ykc_215 (e := (3, .istore_n kF2, 0)) rfl) rfl rfl ?_
      refine gt_load (v := .ref 170) (n := 1) (ykc_215 (e := (2, .aload_n kF0, 0)) rfl) rfl rfl ?_
      refine gt_load (v := .int z1) (n := 1) (ykc_215 (e := (2, .iload_n kF1, 0)) rfl) rfl rfl ?_
      refine gt_push (v := .int ((Int8.ofInt 40).toInt32)) (n := 2) (ykc_215 (e := (1, .bipush 40, 0)) rfl) rfl rfl ?_
      refine gt_load (v := .int (Int32.ofInt 0)) (n := 1) (ykc_215 (e := (2, .iload_n kF2, 0)) rfl) rfl rfl ?_
      refine gt_cv (n := 3) (as := [.ref 170, .int z1, .int ((Int8.ofInt 40).toInt32), .int (Int32.ofInt 0)]) (r := []) (ykc_215 (e := (6, .invokevirtual 213, 0)) rfl) rfl hP3 rfl rfl rfl (xfault (D := D') hP3 qa3 qT3 (by omega) x40) rfl (fun vv ph204 hv => ?_)
      obtain ⟨e8, r, e9, hr1, hr2⟩ := hv; subst e8; subst e9
      change xGT kK (D' + 1) 215 _ (38, [some (.ref 170), some (.int z1), some (.int (Int32.ofInt 0))], [.int r], ph103, 0, 0)
      refine gt_ret (ykc_215 (e := (7, .ireturn, 0)) rfl) rfl ?_
      exact ⟨r, c3, l3, rfl, hP3, g93.1, hr1, by omega, ⟨xc3, qc3, ec3⟩, g93.2, hat3, hlen3, fun q => absurd (by decide) (hr2 q)⟩
    · obtain ⟨-, seg, hseg, htk⟩ := b7 (by omega)
      refine gt_zeq_f (ykc_215 (e := (4, .ifCond .eq 7, 28)) rfl) hq3 rfl ?_
      refine gt_alu (st' := [.int (Int32.ofInt 1)]) (ykc_215 (e := (0, .iconst 1, 0)) rfl) rfl rfl ?_
      refine gt_br (pc' := 29) (st' := [.int (Int32.ofInt 1)]) (ykc_215 (e := (4, .goto 4, 29)) rfl) rfl ?_
      refine gt_store (L' := [some (.ref 170), some (.int z1), some (.int (Int32.ofInt 1))]) (st' := []) (n := 1) (ykc_215 (e := (3, .istore_n kF2, 0)) rfl) rfl rfl ?_
      refine gt_load (v := .ref 170) (n := 1) (ykc_215 (e := (2, .aload_n kF0, 0)) rfl) rfl rfl ?_
      refine gt_load (v := .int z1) (n := 1) (ykc_215 (e := (2, .iload_n kF1, 0)) rfl) rfl rfl ?_
      refine gt_push (v := .int ((Int8.ofInt 40).toInt32)) (n := 2) (ykc_215 (e := (1, .bipush 40, 0)) rfl) rfl rfl ?_
      refine gt_load (v := .int (Int32.ofInt 1)) (n := 1) (ykc_215 (e := (2, .iload_n kF2, 0)) rfl) rfl rfl ?_
      refine gt_cv (n := 3) (as := [.ref 170, .int z1, .int ((Int8.ofInt 40).toInt32), .int (Int32.ofInt 1)]) (r := []) (ykc_215 (e := (6, .invokevirtual 213, 0)) rfl) rfl hP3 rfl rfl rfl (xfault (D := D') hP3 qa3 qT3 (by omega) x40) rfl (fun vv ph204 hv => ?_)
      obtain ⟨e8, r, e9, hr1, hr2⟩ := hv; subst e8; subst e9
      change xGT kK (D' + 1) 215 _ (38, [some (.ref 170), some (.int z1), some (.int (Int32.ofInt 1))], [.int r], ph103, 0, 0)
      refine gt_ret (ykc_215 (e := (7, .ireturn, 0)) rfl) rfl ?_
      refine ⟨r, c3, l3, rfl, hP3, g93.1, hr1, by omega, ⟨xc3, qc3, ec3⟩, g93.2, hat3, hlen3, fun _ => ?_⟩
      rw [List.take_zero, List.nil_append] at htk
      have hl := congrArg List.length htk
      rw [List.length_take, hlen3] at hl
      have h9 := hseg 0 [] (by omega) rfl
      rw [List.append_nil] at h9
      rw [htk]
      exact h9

set_option maxRecDepth 6000 in
theorem x_ofN {n : Nat} {y : Int32} (hn : n ≤ 80) (hy : y.toInt = (n : Int)) : y = Int32.ofNat n := by
  apply Int32.toInt_inj.mp
  rw [hy, Int32.toInt_ofNat_of_lt (by omega)]

set_option maxRecDepth 6000 in
theorem xlc_loopR {E : pm_H → Prop} (hE : xHE xX xgA_G74 xgF_G74 E) {m : Int} {D : Nat} {Q : Option Value → pm_H → Prop} {y : Int32} {n : Nat} {l : List Int32} (hn : n ≤ 80) (hll : l.length = 80) (hy : y.toInt = (n : Int)) (hQ : ∀ ph' l', xH xX kK m 0 ph' → E ph' → xget ph' 170 23 = some (.int y) → pm_at ph' 179 = some (.inl (0, .inl l')) → pm_at ph' 180 = some (.inl (0, .inl l)) → l'.take n = l.take n → Q none ph') : ∀ (s i : Nat) (x : Int32) (l2 : List Int32) (ph : pm_H), n - i < s → i ≤ n → x.toInt = (i : Int) → xH xX kK m 0 ph → E ph → xget ph 170 23 = some (.int y) → pm_at ph 179 = some (.inl (0, .inl l2)) → l2.length = 80 → pm_at ph 180 = some (.inl (0, .inl l)) → l2.take i = l.take i → xGT kK D 216 Q (7, [some (.ref 170), some (.ref 180), some (.int y), some (.int x)], [], ph, 0, 0) := by
  intro s
  induction s with
  | zero => intro i x l2 ph h; omega
  | succ s ih =>
    intro i x l2 ph hs hi hx hP g9 q23 hat hlen hal htk
    by_cases hin : i = n
    · subst hin
      refine gt_load (v := .int x) (n := 1) (ykc_216 (e := (2, .iload_n kF3, 0)) rfl) rfl rfl ?_
      refine gt_load (v := .int y) (n := 1) (ykc_216 (e := (2, .iload_n kF2, 0)) rfl) rfl rfl ?_
      refine gt_ige_t (ykc_216 (e := (4, .if_icmp .ge 18, 27)) rfl) (by omega) ?_
      refine gt_ret (ykc_216 (e := (7, .return_, 0)) rfl) rfl ?_
      exact hQ ph l2 hP g9 q23 hat hal htk
    · have hi2 : i < n := by omega
      refine gt_load (v := .int x) (n := 1) (ykc_216 (e := (2, .iload_n kF3, 0)) rfl) rfl rfl ?_
      refine gt_load (v := .int y) (n := 1) (ykc_216 (e := (2, .iload_n kF2, 0)) rfl) rfl rfl ?_
      refine gt_ige_f (ykc_216 (e := (4, .if_icmp .ge 18, 27)) rfl) (by omega) rfl ?_
      refine gt_load (v := .ref 170) (n := 1) (ykc_216 (e := (2, .aload_n kF0, 0)) rfl) rfl rfl ?_
      refine gt_gfr (A := 179) (ykc_216 (e := (5, .getfield 56, 0)) rfl) rfl hP rfl rfl rfl ?_
      refine gt_load (v := .int x) (n := 1) (ykc_216 (e := (2, .iload_n kF3, 0)) rfl) rfl rfl ?_
      refine gt_load (v := .ref 180) (n := 1) (ykc_216 (e := (2, .aload_n kF1, 0)) rfl) rfl rfl ?_
      refine gt_load (v := .int x) (n := 1) (ykc_216 (e := (2, .iload_n kF3, 0)) rfl) rfl rfl ?_
      refine gt_ial (A := 180) (ykc_216 (e := (5, .iaload, 0)) rfl) hP rfl rfl (by omega) (by omega) rfl (fun e0 g_e0 b_e0 => ?_)
      refine gt_ias (A := 179) (y := e0) (x := x) (ykc_216 (e := (5, .iastore, 0)) rfl) hP rfl rfl (by omega) (by omega) xany rfl (fun ph101 hP101 u101 => ?_)
      have f101_23 : xget ph101 170 23 = some (.int y) := (u101.2.1 170 23 (fun q => absurd q.1 (by decide))).trans q23
      obtain ⟨x1, e_x1, h_x1⟩ : ∃ zq : Int32, x + Int32.ofInt 1 = zq ∧ zq.toInt = x.toInt + 1 := ⟨_, rfl, by rw [ti_add (by rw [xi1]; omega) (by rw [xi1]; omega), xi1]⟩
      refine gt_store (L' := [some (.ref 170), some (.ref 180), some (.int y), some (.int x1)]) (st' := []) (n := 3) (ykc_216 (e := (3, .iinc 3 1, 0)) rfl) (by rw [← e_x1]; rfl) rfl ?_
      refine gt_br (pc' := 7) (st' := []) (ykc_216 (e := (4, .goto (-17), 7)) rfl) rfl ?_
      obtain ⟨l3, hat3, hlen3, -⟩ := xA_at (A := 179) hP101 rfl rfl
      have el := xu1_list hat hat3 (by omega) (by omega) u101
      have ek : x.toInt.toNat = i := by omega
      rw [ek] at el
      have ge : l[i]? = some e0 := by
        have g := g_e0
        unfold xget at g
        rw [hal, ek] at g
        have g : (l[i]?).map Value.int = some (.int e0) := g
        obtain ⟨w, w1, w2⟩ := Option.map_eq_some_iff.mp g
        cases w2
        exact w1
      refine ih (i + 1) x1 l3 _ (by omega) (by omega) (by omega) hP101 (xu1_E hE u101 rfl rfl rfl g9) ((u101.2.1 170 23 (fun q => absurd q.1 (by decide))).trans q23) hat3 (by omega) ((u101.2.2 180 (by decide)).trans hal) ?_
      rw [el, xtake_set (by omega), htk, List.take_succ, ge]
      rfl

set_option maxRecDepth 6000 in
theorem xlaycR {E : pm_H → Prop} (hE : xHE xX xgA_G74 xgF_G74 E) {m : Int} {D : Nat} {y : Int32} {n : Nat} {ph : pm_H} {l : List Int32} (hn : n ≤ 80) (hll : l.length = 80) (hy : y.toInt = (n : Int)) (hP : xH xX kK m 0 ph) (g9 : E ph) (hal : pm_at ph 180 = some (.inl (0, .inl l))) (hv : xvc (l.take n) 0 = true) : ∃ v ph', pm_Rd kK false (D + 1) 216 [.ref 170, .ref 180, .int y] ph (v, ph', 0, 0) ∧ (v = none ∧ xH xX kK m 0 ph' ∧ E ph' ∧ xV ph' ∧ pm_at ph' 180 = some (.inl (0, .inl l))) := by
  refine xRd_mk (nl := 4) rfl rfl ?_
  show xGT kK D 216 _ (0, [some (.ref 170), some (.ref 180), some (.int y), none], [], ph, 0, 0)
  refine gt_load (v := .ref 170) (n := 1) (ykc_216 (e := (2, .aload_n kF0, 0)) rfl) rfl rfl ?_
  refine gt_load (v := .int y) (n := 1) (ykc_216 (e := (2, .iload_n kF2, 0)) rfl) rfl rfl ?_
  refine gt_pf (y := y) (ykc_216 (e := (5, .putfield 248, 0)) rfl) rfl hP rfl rfl (by show 0 ≤ y.toInt; omega) (by show y.toInt ≤ 80; omega) rfl (fun ph1 hP1 u1 => ?_)
  refine gt_alu (st' := [.int (Int32.ofInt 0)]) (ykc_216 (e := (0, .iconst 0, 0)) rfl) rfl rfl ?_
  refine gt_store (L' := [some (.ref 170), some (.ref 180), some (.int y), some (.int (Int32.ofInt 0))]) (st' := []) (n := 1) (ykc_216 (e := (3, .istore_n kF3, 0)) rfl) rfl rfl ?_
  obtain ⟨l2, hat, hlen, -⟩ := xA_at (A := 179) hP1 rfl rfl
  refine xlc_loopR hE hn hll hy (fun ph' l' h1 h2 h3 h4 h5 h6 => ⟨rfl, h1, h2, ⟨l', n, h4, ?_, hn, by rw [h6]; exact hv⟩, h5⟩) (n + 1) 0 _ l2 _ (by omega) (by omega) (by decide) hP1 (xu1_E hE u1 rfl rfl rfl g9) u1.1 hat hlen ((u1.2.2 180 (by decide)).trans hal) (by rw [List.take_zero, List.take_zero])
  rw [h3]
  exact congrArg (fun q => some (Value.int q)) (x_ofN hn hy)

set_option maxRecDepth 6000 in
theorem xlc_loopW {E : pm_H → Prop} (hE : xHE xX xgA_G74 xgF_G74 E) {m : Int} {D : Nat} {Q : Option Value → pm_H → Prop} {y : Int32} {n : Nat} {l : List Int32} (hn : n ≤ 80) (hll : l.length = 80) (hy : y.toInt = (n : Int)) (hQ : ∀ ph' l', xH xX kK m 0 ph' → E ph' → xget ph' 170 23 = some (.int y) → pm_at ph' 179 = some (.inl (0, .inl l')) → pm_at ph' 197 = some (.inl (0, .inl l)) → l'.take n = l.take n → Q none ph') : ∀ (s i : Nat) (x : Int32) (l2 : List Int32) (ph : pm_H), n - i < s → i ≤ n → x.toInt = (i : Int) → xH xX kK m 0 ph → E ph → xget ph 170 23 = some (.int y) → pm_at ph 179 = some (.inl (0, .inl l2)) → l2.length = 80 → pm_at ph 197 = some (.inl (0, .inl l)) → l2.take i = l.take i → xGT kK D 216 Q (7, [some (.ref 170), some (.ref 197), some (.int y), some (.int x)], [], ph, 0, 0) := by
  intro s
  induction s with
  | zero => intro i x l2 ph h; omega
  | succ s ih =>
    intro i x l2 ph hs hi hx hP g9 q23 hat hlen hal htk
    by_cases hin : i = n
    · subst hin
      refine gt_load (v := .int x) (n := 1) (ykc_216 (e := (2, .iload_n kF3, 0)) rfl) rfl rfl ?_
      refine gt_load (v := .int y) (n := 1) (ykc_216 (e := (2, .iload_n kF2, 0)) rfl) rfl rfl ?_
      refine gt_ige_t (ykc_216 (e := (4, .if_icmp .ge 18, 27)) rfl) (by omega) ?_
      refine gt_ret (ykc_216 (e := (7, .return_, 0)) rfl) rfl ?_
      exact hQ ph l2 hP g9 q23 hat hal htk
    · have hi2 : i < n := by omega
      refine gt_load (v := .int x) (n := 1) (ykc_216 (e := (2, .iload_n kF3, 0)) rfl) rfl rfl ?_
      refine gt_load (v := .int y) (n := 1) (ykc_216 (e := (2, .iload_n kF2, 0)) rfl) rfl rfl ?_
      refine gt_ige_f (ykc_216 (e := (4, .if_icmp .ge 18, 27)) rfl) (by omega) rfl ?_
      refine gt_load (v := .ref 170) (n := 1) (ykc_216 (e := (2, .aload_n kF0, 0)) rfl) rfl rfl ?_
      refine gt_gfr (A := 179) (ykc_216 (e := (5, .getfield 56, 0)) rfl) rfl hP rfl rfl rfl ?_
      refine gt_load (v := .int x) (n := 1) (ykc_216 (e := (2, .iload_n kF3, 0)) rfl) rfl rfl ?_
      refine gt_load (v := .ref 197) (n := 1) (ykc_216 (e := (2, .aload_n kF1, 0)) rfl) rfl rfl ?_
      refine gt_load (v := .int x) (n := 1) (ykc_216 (e := (2, .iload_n kF3, 0)) rfl) rfl rfl ?_
      refine gt_ial (A := 197) (ykc_216 (e := (5, .iaload, 0)) rfl) hP rfl rfl (by omega) (by omega) rfl (fun e0 g_e0 b_e0 => ?_)
      refine gt_ias (A := 179) (y := e0) (x := x) (ykc_216 (e := (5, .iastore, 0)) rfl) hP rfl rfl (by omega) (by omega) xany rfl (fun ph101 hP101 u101 => ?_)
      have f101_23 : xget ph101 170 23 = some (.int y) := (u101.2.1 170 23 (fun q => absurd q.1 (by decide))).trans q23
      obtain ⟨x1, e_x1, h_x1⟩ : ∃ zq : Int32, x + Int32.ofInt 1 = zq ∧ zq.toInt = x.toInt + 1 := ⟨_, rfl, by rw [ti_add (by rw [xi1]; omega) (by rw [xi1]; omega), xi1]⟩
      refine gt_store (L' := [some (.ref 170), some (.ref 197), some (.int y), some (.int x1)]) (st' := []) (n := 3) (ykc_216 (e := (3, .iinc 3 1, 0)) rfl) (by rw [← e_x1]; rfl) rfl ?_
      refine gt_br (pc' := 7) (st' := []) (ykc_216 (e := (4, .goto (-17), 7)) rfl) rfl ?_
      obtain ⟨l3, hat3, hlen3, -⟩ := xA_at (A := 179) hP101 rfl rfl
      have el := xu1_list hat hat3 (by omega) (by omega) u101
      have ek : x.toInt.toNat = i := by omega
      rw [ek] at el
      have ge : l[i]? = some e0 := by
        have g := g_e0
        unfold xget at g
        rw [hal, ek] at g
        have g : (l[i]?).map Value.int = some (.int e0) := g
        obtain ⟨w, w1, w2⟩ := Option.map_eq_some_iff.mp g
        cases w2
        exact w1
      refine ih (i + 1) x1 l3 _ (by omega) (by omega) (by omega) hP101 (xu1_E hE u101 rfl rfl rfl g9) ((u101.2.1 170 23 (fun q => absurd q.1 (by decide))).trans q23) hat3 (by omega) ((u101.2.2 197 (by decide)).trans hal) ?_
      rw [el, xtake_set (by omega), htk, List.take_succ, ge]
      rfl

set_option maxRecDepth 6000 in
theorem xlaycW {E : pm_H → Prop} (hE : xHE xX xgA_G74 xgF_G74 E) {m : Int} {D : Nat} {y : Int32} {n : Nat} {ph : pm_H} {l : List Int32} (hn : n ≤ 80) (hll : l.length = 80) (hy : y.toInt = (n : Int)) (hP : xH xX kK m 0 ph) (g9 : E ph) (hal : pm_at ph 197 = some (.inl (0, .inl l))) (hv : xvc (l.take n) 0 = true) : ∃ v ph', pm_Rd kK false (D + 1) 216 [.ref 170, .ref 197, .int y] ph (v, ph', 0, 0) ∧ (v = none ∧ xH xX kK m 0 ph' ∧ E ph' ∧ xV ph' ∧ pm_at ph' 197 = some (.inl (0, .inl l))) := by
  refine xRd_mk (nl := 4) rfl rfl ?_
  show xGT kK D 216 _ (0, [some (.ref 170), some (.ref 197), some (.int y), none], [], ph, 0, 0)
  refine gt_load (v := .ref 170) (n := 1) (ykc_216 (e := (2, .aload_n kF0, 0)) rfl) rfl rfl ?_
  refine gt_load (v := .int y) (n := 1) (ykc_216 (e := (2, .iload_n kF2, 0)) rfl) rfl rfl ?_
  refine gt_pf (y := y) (ykc_216 (e := (5, .putfield 248, 0)) rfl) rfl hP rfl rfl (by show 0 ≤ y.toInt; omega) (by show y.toInt ≤ 80; omega) rfl (fun ph1 hP1 u1 => ?_)
  refine gt_alu (st' := [.int (Int32.ofInt 0)]) (ykc_216 (e := (0, .iconst 0, 0)) rfl) rfl rfl ?_
  refine gt_store (L' := [some (.ref 170), some (.ref 197), some (.int y), some (.int (Int32.ofInt 0))]) (st' := []) (n := 1) (ykc_216 (e := (3, .istore_n kF3, 0)) rfl) rfl rfl ?_
  obtain ⟨l2, hat, hlen, -⟩ := xA_at (A := 179) hP1 rfl rfl
  refine xlc_loopW hE hn hll hy (fun ph' l' h1 h2 h3 h4 h5 h6 => ⟨rfl, h1, h2, ⟨l', n, h4, ?_, hn, by rw [h6]; exact hv⟩, h5⟩) (n + 1) 0 _ l2 _ (by omega) (by omega) (by decide) hP1 (xu1_E hE u1 rfl rfl rfl g9) u1.1 hat hlen ((u1.2.2 197 (by decide)).trans hal) (by rw [List.take_zero, List.take_zero])
  rw [h3]
  exact congrArg (fun q => some (Value.int q)) (x_ofN hn hy)

set_option maxRecDepth 6000 in
theorem xrule {E : pm_H → Prop} (hE : xHE xX xgA_G75 xgF_G75 E) {m : Int} (hm : m ≤ 2147483646) (h0m : (0 : Int) ≤ m) {D : Nat} (hD : 110 ≤ D) {ph : pm_H} (hP : xH xX kK m 0 ph) (g9 : E ph) (hV : xV ph) : ∃ v ph', pm_Rd kK false D 217 [.ref 170] ph (v, ph', 0, 0) ∧ (∃ z : Int32, v = some (.int z) ∧ z.toInt ≤ 0 ∧ xH xX kK m 0 ph' ∧ E ph' ∧ xV ph' ∧ xiN ph' 14 0) := by
  obtain ⟨D', rfl⟩ : ∃ D', D = D' + 1 + 1 := ⟨D - 2, by omega⟩
  have hE1 := hE
  have hE2 : xHE xX xgA_G73 xgF_G73 (fun p => E p ∧ xV p) := fun p p' hs hp => ⟨(xHE_sub (gA' := xgA_G73) (gF' := xgF_G73) (by decide +kernel) (by decide +kernel) hE) p p' hs hp.1, (xHE_sub (gA' := xgA_G73) (gF' := xgF_G73) (by decide +kernel) (by decide +kernel) xHEV) p p' hs hp.2⟩
  have hE3 : xHE xX xgA_G74 xgF_G74 (fun p => E p ∧ xiN p 14 0) := fun p p' hs hp => ⟨(xHE_sub (gA' := xgA_G74) (gF' := xgF_G74) (by decide +kernel) (by decide +kernel) hE) p p' hs hp.1, by
    obtain ⟨x, h1, h2⟩ := hp.2
    exact ⟨x, (hs.2 170 0 14 rfl (by decide)).symm.trans h1, h2⟩⟩
  refine xRd_mk (nl := 2) rfl rfl ?_
  show xGT kK (D' + 1) 217 _ (0, [some (.ref 170), none], [], ph, 0, 0)
  refine gt_load (v := .ref 170) (n := 1) (ykc_217 (e := (2, .aload_n kF0, 0)) rfl) rfl rfl ?_
  refine gt_alu (st' := [.int (Int32.ofInt 0), .ref 170]) (ykc_217 (e := (0, .iconst 0, 0)) rfl) rfl rfl ?_
  refine gt_pf (y := Int32.ofInt 0) (ykc_217 (e := (5, .putfield 3, 0)) rfl) rfl hP rfl rfl (by decide) (by decide) rfl (fun ph1 hP1 u1 => ?_)
  have g1 : E ph1 ∧ xV ph1 := ⟨xu1_E hE1 u1 rfl rfl rfl g9, xu1_E xHEV u1 rfl rfl rfl hV⟩
  refine gt_load (v := .ref 170) (n := 1) (ykc_217 (e := (2, .aload_n kF0, 0)) rfl) rfl rfl ?_
  refine gt_cv (n := 0) (as := [.ref 170]) (r := []) (ykc_217 (e := (6, .invokevirtual 251, 0)) rfl) rfl hP1 rfl rfl rfl (xrrule hE2 hm h0m (by omega) hP1 g1) rfl (fun vv ph2 hv => ?_)
  obtain ⟨z1, c, l, e9, hP2, g2, hz, hc, ⟨xc, qc, ec⟩, ht, hat, hlen, hvc⟩ := hv; subst e9
  change xGT kK (D' + 1) 217 _ (9, [some (.ref 170), none], [.int z1], ph2, 0, 0)
  refine gt_store (L' := [some (.ref 170), some (.int z1)]) (st' := []) (n := 1) (ykc_217 (e := (3, .istore_n kF1, 0)) rfl) rfl rfl ?_
  by_cases hq : z1.toInt ≠ 0
  · refine gt_load (v := .int z1) (n := 1) (ykc_217 (e := (2, .iload_n kF1, 0)) rfl) rfl rfl ?_
    refine gt_zne_t (ykc_217 (e := (4, .ifCond .ne 15, 26)) rfl) hq ?_
    refine gt_load (v := .int z1) (n := 1) (ykc_217 (e := (2, .iload_n kF1, 0)) rfl) rfl rfl ?_
    refine gt_ret (ykc_217 (e := (7, .ireturn, 0)) rfl) rfl ?_
    exact ⟨z1, rfl, hz, hP2, g2.1, g2.2, ht⟩
  · refine gt_load (v := .int z1) (n := 1) (ykc_217 (e := (2, .iload_n kF1, 0)) rfl) rfl rfl ?_
    refine gt_zne_f (ykc_217 (e := (4, .ifCond .ne 15, 26)) rfl) (by omega) rfl ?_
    refine gt_load (v := .ref 170) (n := 1) (ykc_217 (e := (2, .aload_n kF0, 0)) rfl) rfl rfl ?_
    refine gt_load (v := .ref 170) (n := 1) (ykc_217 (e := (2, .aload_n kF0, 0)) rfl) rfl rfl ?_
    refine gt_gfr (A := 180) (ykc_217 (e := (5, .getfield 59, 0)) rfl) rfl hP2 rfl rfl rfl ?_
    refine gt_load (v := .ref 170) (n := 1) (ykc_217 (e := (2, .aload_n kF0, 0)) rfl) rfl rfl ?_
    refine gt_gfk (v := .int xc) (ykc_217 (e := (5, .getfield 227, 0)) rfl) rfl hP2 qc rfl ?_
    refine gt_cv (n := 2) (as := [.ref 170, .ref 180, .int xc]) (r := []) (ykc_217 (e := (6, .invokevirtual 254, 0)) rfl) rfl hP2 rfl rfl rfl (xlaycR (D := D') (n := c) hE3 (by omega) hlen ec hP2 ⟨g2.1, ht⟩ hat (hvc (by omega))) rfl (fun vv ph103 hv => ?_)
    obtain ⟨e9, hP3, g3, hV3, -⟩ := hv; subst e9
    change xGT kK (D' + 1) 217 _ (26, [some (.ref 170), some (.int z1)], [], ph103, 0, 0)
    refine gt_load (v := .int z1) (n := 1) (ykc_217 (e := (2, .iload_n kF1, 0)) rfl) rfl rfl ?_
    refine gt_ret (ykc_217 (e := (7, .ireturn, 0)) rfl) rfl ?_
    exact ⟨z1, rfl, hz, hP3, g3.1, hV3, g3.2⟩

