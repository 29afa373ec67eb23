/-! joined: 61.xinv.lean.txt 62.hrr.lean.txt 63.hlaw.lean.txt 64.hundo.lean.txt 65.hadds.lean.txt 66.hwriters.lean.txt 67.hhours.lean.txt -/
section
/-! What holds of the reference between calls: positions, what is undone, what is kept -/
theorem xHEV : xHE xX [9] [(0, 23)] xV := by
  intro ph ph' hs ⟨l, n, h1, h2, h3, h4⟩
  refine ⟨l, n, ?_, ?_, h3, h4⟩
  · rw [← hs.1 179 9 rfl (by decide)]
    exact h1
  · rw [← hs.2 170 0 23 rfl (by decide)]
    exact h2
/-- a row is good -/
def xgr (ph : pm_H) (W P T : Int32) (a off : Nat) : Prop := W.toInt = 7 ∨ xgd ph a off P.toInt.toNat T.toInt.toNat
def xINV (n : Nat) (ph : pm_H) : Prop := ∃ W P T U C : Int32, (xget ph 170 4 = some (.int W) ∧ xget ph 170 5 = some (.int P) ∧ xget ph 170 6 = some (.int T) ∧ xget ph 170 27 = some (.int U) ∧ xget ph 170 7 = some (.int C)) ∧ (P.toInt ≤ 8 ∧ T.toInt ≤ 8 ∧ 0 ≤ C.toInt ∧ C.toInt ≤ n) ∧ xgr ph W P T 174 0 ∧ (∀ u : Nat, (u : Int) < U.toInt → xgr ph W P T 183 (41 * u)) ∧ ∀ i, i < 3 → ∀ y : Int32, xgb ph 198 i y → y.toInt ≠ 0 → ∃ K : Int32, xget ph 199 i = some (.int K) ∧ K.toInt ≤ C.toInt ∧ (K.toInt = C.toInt → xgr ph W P T 200 (41 * i))
theorem xgr_eq {ph ph' : pm_H} {W P T : Int32} {a off : Nat} (hP : P.toInt ≤ 8) (hT : T.toInt ≤ 8) (h : ∀ k, (k < 8 ∨ 32 ≤ k ∧ k < 40) → xget ph' a (off + k) = xget ph a (off + k)) (g : xgr ph W P T a off) : xgr ph' W P T a off := by
  rcases g with g | g
  · exact Or.inl g
  · refine Or.inr fun k x hk hx => g k x hk ?_
    rw [← h k (by omega)]
    exact hx
theorem xgr_cp {ph ph' : pm_H} {W P T : Int32} {a off b off2 : Nat} (hP : P.toInt ≤ 8) (hT : T.toInt ≤ 8) (h : ∀ k, k < 41 → xget ph' b (off2 + k) = xget ph a (off + k)) (g : xgr ph W P T a off) : xgr ph' W P T b off2 := by
  rcases g with g | g
  · exact Or.inl g
  · refine Or.inr fun k x hk hx => g k x hk ?_
    rw [← h k (by omega)]
    exact hx
theorem xgb_eq {ph ph' : pm_H} {a : Nat} (h : pm_at ph' a = pm_at ph a) {i : Nat} {y : Int32} (g : xgb ph' a i y) : xgb ph a i y := by
  obtain ⟨l, h1, h2⟩ := g
  exact ⟨l, by rw [← h]; exact h1, h2⟩
theorem xget_at {ph p : pm_H} {a : Nat} (h : pm_at p a = pm_at ph a) (i : Nat) : xget p a i = xget ph a i := by unfold xget; rw [h]
def xgAI : List Nat := [13, 28, 29, 30]
def xgFI : List (Nat × Nat) := [(0, 4), (0, 5), (0, 6), (0, 7), (0, 27), (4, 0), (4, 1), (4, 2), (4, 3), (4, 4), (4, 5), (4, 6), (4, 7), (4, 32), (4, 33), (4, 34), (4, 35), (4, 36), (4, 37), (4, 38), (4, 39)]
theorem xgFI_now : ∀ k, (k < 8 ∨ 32 ≤ k ∧ k < 40) → (4, k) ∈ xgFI := by
  intro k hk
  have h : (List.range 40).all (fun k => bif (bif Nat.blt k 8 then true else Nat.ble 32 k) then xmemP xgFI 4 k else true) = true := by decide +kernel
  have h2 := List.all_eq_true.mp h k (List.mem_range.mpr (by omega))
  apply xmemP_in
  rcases hk with q | q
  · have e : Nat.blt k 8 = true := Nat.ble_eq_true_of_le q
    rw [e] at h2
    exact h2
  · have e : Nat.ble 32 k = true := Nat.ble_eq_true_of_le q.1
    rw [e] at h2
    cases hb : Nat.blt k 8 with
    | true => rw [hb] at h2; exact h2
    | false => rw [hb] at h2; exact h2
theorem xHEI (n : Nat) : xHE xX xgAI xgFI (xINV n) := by
  intro ph ph' hs ⟨W, P, T, U, C, ⟨f1, f2, f3, f4, f5⟩, ⟨b1, b2, b3, b4⟩, g1, g2, g3⟩
  have hf : ∀ k, (0, k) ∈ xgFI → xget ph' 170 k = xget ph 170 k := fun k hk => (hs.2 170 0 k rfl hk).symm
  have ha : ∀ a i, xown a = some i → i ∈ xgAI → pm_at ph' a = pm_at ph a := fun a i h1 h2 => (hs.1 a i h1 h2).symm
  have a1 := ha 183 13 rfl (by decide)
  have a2 := ha 198 28 rfl (by decide)
  have a3 := ha 199 29 rfl (by decide)
  have a4 := ha 200 30 rfl (by decide)
  refine ⟨W, P, T, U, C, ⟨(hf 4 (by decide)).trans f1, (hf 5 (by decide)).trans f2, (hf 6 (by decide)).trans f3, (hf 27 (by decide)).trans f4, (hf 7 (by decide)).trans f5⟩, ⟨b1, b2, b3, b4⟩, ?_, fun u hu => ?_, fun i hi y hy hy0 => ?_⟩
  · exact xgr_eq b1 b2 (fun k hk => by rw [Nat.zero_add]; exact (hs.2 174 4 k rfl (xgFI_now k hk)).symm) g1
  · exact xgr_eq b1 b2 (fun k _ => xget_at a1 _) (g2 u hu)
  · obtain ⟨K, k1, k2, k3⟩ := g3 i hi y (xgb_eq a2 hy) hy0
    exact ⟨K, (xget_at a3 i).trans k1, k2, fun e => xgr_eq b1 b2 (fun k _ => xget_at a4 _) (k3 e)⟩
theorem xINV_PG {n : Nat} {ph : pm_H} (h : xINV n ph) : xPG ph := by
  obtain ⟨W, P, T, U, C, ⟨f1, f2, f3, f4, f5⟩, -, g1, -, -⟩ := h
  intro W2 P2 T2 h1 h2 h3 h7
  have e1 := xget_int f1 h1
  have e2 := xget_int f2 h2
  have e3 := xget_int f3 h3
  subst e1 e2 e3
  rcases g1 with g | g
  · exact absurd g h7
  · exact g
theorem xINV_le {n n' : Nat} {ph : pm_H} (hn : n ≤ n') (h : xINV n ph) : xINV n' ph := by
  obtain ⟨W, P, T, U, C, f, ⟨b1, b2, b3, b4⟩, g⟩ := h
  exact ⟨W, P, T, U, C, f, ⟨b1, b2, b3, by omega⟩, g⟩
theorem xset_ne {ph : pm_H} {a b : Nat} {c : pm_C} (h : b ≠ a) : pm_at (ph.set a c) b = pm_at ph b := xat_ne h
theorem xINV_St (n : Nat) : xSt (xINV n) := by
  intro ph l k y hat hy ⟨W, P, T, U, C, ⟨f1, f2, f3, f4, f5⟩, b, g1, g2, g3⟩
  have hf : ∀ c, xget (ph.set 174 (.inl (0, .inl (l.set k y)))) 170 c = xget ph 170 c := fun c => xget_ne (by decide)
  have hg : ∀ a, a ≠ 174 → pm_at (ph.set 174 (.inl (0, .inl (l.set k y)))) a = pm_at ph a := fun a h => xat_ne h
  refine ⟨W, P, T, U, C, ⟨(hf 4).trans f1, (hf 5).trans f2, (hf 6).trans f3, (hf 27).trans f4, (hf 7).trans f5⟩, b, ?_, fun u hu => ?_, fun i hi z hz hz0 => ?_⟩
  · rcases hy with hy | ⟨C2, c1, c2⟩
    · rcases g1 with g | g
      · exact Or.inl g
      · refine Or.inr fun c x hc hx => ?_
        rw [Nat.zero_add] at hx
        unfold xget at hx
        rw [xat_self hat] at hx
        have hx : ((l.set k y)[c]?).map Value.int = some (.int x) := hx
        by_cases e : c = k
        · subst e
          by_cases hl : c < l.length
          · rw [List.getElem?_set_self hl] at hx
            cases hx
            exact hy
          · rw [List.getElem?_eq_none (by rw [List.length_set]; omega)] at hx
            cases hx
        · rw [List.getElem?_set_ne (Ne.symm e)] at hx
          refine g c x hc ?_
          rw [Nat.zero_add]
          unfold xget
          rw [hat]
          exact hx
    · have e := xget_int f1 c1
      subst e
      exact Or.inl c2
  · exact xgr_eq b.1 b.2.1 (fun c _ => xget_at (hg 183 (by decide)) _) (g2 u hu)
  · obtain ⟨K, k1, k2, k3⟩ := g3 i hi z (xgb_eq (hg 198 (by decide)) hz) hz0
    exact ⟨K, (xget_at (hg 199 (by decide)) i).trans k1, k2, fun e => xgr_eq b.1 b.2.1 (fun c _ => xget_at (hg 200 (by decide)) _) (k3 e)⟩
/-! copies -/
def xcp (ph0 ph : pm_H) (dA dO sA sO n : Nat) : Prop := (∀ i, i < n → xget ph dA (dO + i) = xget ph0 sA (sO + i)) ∧ (∀ b c, ¬ (b = dA ∧ dO ≤ c ∧ c < dO + n) → xget ph b c = xget ph0 b c) ∧ ∀ b, b ≠ dA → pm_at ph b = pm_at ph0 b
theorem xcp_0 {ph : pm_H} {dA dO sA sO : Nat} : xcp ph ph dA dO sA sO 0 := ⟨fun i h => absurd h (Nat.not_lt_zero _), fun _ _ _ => rfl, fun _ _ => rfl⟩
theorem xcp_s {ph0 ph ph' : pm_H} {dA dO sA sO n : Nat} {y : Int32} (h : xcp ph0 ph dA dO sA sO n) (hne : sA ≠ dA) (hy : xget ph sA (sO + n) = some (.int y)) (u : xu1 ph ph' dA (dO + n) (.int y)) : xcp ph0 ph' dA dO sA sO (n + 1) := by
  obtain ⟨h1, h2, h3⟩ := h
  obtain ⟨u1, u2, u3⟩ := u
  refine ⟨fun i hi => ?_, fun b c hbc => ?_, fun b hb => (u3 b hb).trans (h3 b hb)⟩
  · by_cases e : i = n
    · subst e
      rw [u1, ← hy]
      exact h2 sA _ (fun q => hne q.1)
    · rw [u2 dA (dO + i) (fun q => e (by omega))]
      exact h1 i (by omega)
  · rw [u2 b c (fun q => hbc ⟨q.1, by omega, by omega⟩)]
    exact h2 b c (fun q => hbc ⟨q.1, q.2.1, by omega⟩)
end
section
/-! readsRule, laysCode, rule, by hand, printed by wip/x/h_rr.py -/
set_option maxRecDepth 6000 in
theorem xm1 : (Int32.ofInt (-1)).toInt = -1 := by decide
set_option maxRecDepth 6000 in
theorem x40 : ((Int8.ofInt 40).toInt32).toInt = 40 := by decide
def xiN (ph : pm_H) (k : Nat) (n : Nat) : Prop := ∃ x : Int32, xget ph 170 k = some (.int x) ∧ x.toInt = (n : Int)
def xbgQ : List (Option xh × List (Nat × xh)) := [(some (.inl (0, 80)), [(696334, .inl (0, 0)), (696335, .inl (0, 0)), (696336, .inl (0, 40)), (696337, .inl (0, 0))])]
set_option maxRecDepth 6000 in
theorem xbg_all : xs_195 (xhmV 1 [.inr (.inr (.inl 0)), .inl (40, 40)]) (xrsA xX xbgQ) (3, [], [], xhmF 3 [], 0, []) = true := by decide +kernel
set_option maxRecDepth 6000 in
theorem xbegin {E : pm_H → Prop} (hE : xHE xX xgA_G73 xgF_G73 E) {m : Int} (hm : m ≤ 2147483646) (h0m : (0 : Int) ≤ m) {D : Nat} (hD : 1 ≤ D) {ph : pm_H} {y : Int32} (hy : y.toInt = 40) (hP : xH xX kK m 0 ph) (g9 : E ph) : ∃ v ph', pm_Rd kK false D 195 [.ref 170, .int y] ph (v, ph', 0, 0) ∧ (∃ (z : Int32) (T : Nat), v = some (.int z) ∧ xH xX kK m 0 ph' ∧ E ph' ∧ 0 ≤ z.toInt ∧ xiN ph' 14 0 ∧ xiN ph' 15 0 ∧ xiN ph' 16 T ∧ xiN ph' 17 0 ∧ T ≤ 40) := by
  have hE2 : xHE xX xgA_G61 xgF_G61 E := xHE_sub (by decide +kernel) (by decide +kernel) hE
  obtain ⟨v, ph', k1, k2, k3, q, hq, k4, k5⟩ := xcok_alt (fp := []) (xso_195 hE2) xbg_all D hD m hm h0m [.ref 170, .int y] ph ⟨xaRi rfl (by decide), xaI (by omega) (by omega), trivial⟩ xF0 hP g9
  have e := List.mem_singleton.mp hq
  subst e
  obtain ⟨u, e, z, e2, z0, z1⟩ := k4
  obtain ⟨x1, a1, b1, c1⟩ := xF_in (a := 170) (c := 14) k5 List.mem_cons_self (by decide) (by decide)
  obtain ⟨x2, a2, b2, c2⟩ := xF_in (a := 170) (c := 15) k5 (List.mem_cons_of_mem _ List.mem_cons_self) (by decide) (by decide)
  obtain ⟨x3, a3, b3, c3⟩ := xF_in (a := 170) (c := 16) k5 (List.mem_cons_of_mem _ (List.mem_cons_of_mem _ List.mem_cons_self)) (by decide) (by decide)
  obtain ⟨x4, a4, b4, c4⟩ := xF_in (a := 170) (c := 17) k5 (List.mem_cons_of_mem _ (List.mem_cons_of_mem _ (List.mem_cons_of_mem _ List.mem_cons_self))) (by decide) (by decide)
  exact ⟨v, ph', k1, z, x3.toInt.toNat, by rw [e, e2], k2, k3, z0, ⟨x1, a1, by omega⟩, ⟨x2, a2, by omega⟩, ⟨x3, a3, by omega⟩, ⟨x4, a4, by omega⟩, by omega⟩

set_option maxRecDepth 6000 in
theorem xft_44 {m : Int} {D : Nat} {ph : pm_H} {Q : Option Value → pm_H → Prop} {z y b w xa : Int32} (hP : xH xX kK m 0 ph) (q15 : xget ph 170 15 = some (.int xa)) (hxa : 0 ≤ xa.toInt ∧ xa.toInt ≤ 80) (hy : y.toInt = 40) (hw0 : w.toInt ≠ 0 → b.toInt ≠ 0) (hQ : ∀ r : Int32, r.toInt ≤ 0 → (r.toInt = 0 → b.toInt ≠ 0) → Q (some (.int r)) ph) : xGT kK D 201 Q (44, [some (.ref 170), some (.int z), some (.int y), some (.int b), some (.int w)], [], ph, 0, 0) := by
  by_cases hw : w.toInt = 0
  · refine gt_load (v := .int w) (n := 2) (ykc_201 (e := (2, .iload 4, 0)) rfl) rfl rfl ?_
    refine gt_zeq_t (ykc_201 (e := (4, .ifCond .eq 7, 53)) rfl) hw ?_
    refine gt_alu (st' := [.int (Int32.ofInt (-1))]) (ykc_201 (e := (0, .iconst (-1), 0)) rfl) rfl rfl ?_
    refine gt_load (v := .ref 170) (n := 1) (ykc_201 (e := (2, .aload_n kF0, 0)) rfl) rfl rfl ?_
    refine gt_gfk (v := .int xa) (ykc_201 (e := (5, .getfield 139, 0)) rfl) rfl hP q15 rfl ?_
    obtain ⟨r1, e_r1, h_r1⟩ : ∃ zq : Int32, (Int32.ofInt (-1)) - xa = zq ∧ zq.toInt = -1 - xa.toInt := ⟨_, rfl, by rw [ti_sub (by rw [xm1]; omega) (by rw [xm1]; omega), xm1]⟩
    refine gt_alu (st' := [.int r1]) (ykc_201 (e := (0, .isub, 0)) rfl) (by rw [← e_r1]; exact rfl) rfl ?_
    refine gt_ret (ykc_201 (e := (7, .ireturn, 0)) rfl) rfl ?_
    exact hQ _ (by omega) (fun q => by omega)
  · refine gt_load (v := .int w) (n := 2) (ykc_201 (e := (2, .iload 4, 0)) rfl) rfl rfl ?_
    refine gt_zeq_f (ykc_201 (e := (4, .ifCond .eq 7, 53)) rfl) hw rfl ?_
    refine gt_alu (st' := [.int (Int32.ofInt 0)]) (ykc_201 (e := (0, .iconst 0, 0)) rfl) rfl rfl ?_
    refine gt_br (pc' := 59) (st' := [.int (Int32.ofInt 0)]) (ykc_201 (e := (4, .goto 9, 59)) rfl) rfl ?_
    refine gt_ret (ykc_201 (e := (7, .ireturn, 0)) rfl) rfl ?_
    exact hQ _ (by decide) (fun _ => hw0 hw)

set_option maxRecDepth 6000 in
theorem xft_40 {m : Int} {D : Nat} {ph : pm_H} {Q : Option Value → pm_H → Prop} {z y b w xa : Int32} (hP : xH xX kK m 0 ph) (q15 : xget ph 170 15 = some (.int xa)) (hxa : 0 ≤ xa.toInt ∧ xa.toInt ≤ 80) (hy : y.toInt = 40) (hw : w.toInt ≠ 0 → b.toInt ≠ 0) (hQ : ∀ r : Int32, r.toInt ≤ 0 → (r.toInt = 0 → b.toInt ≠ 0) → Q (some (.int r)) ph) : xGT kK D 201 Q (40, [some (.ref 170), some (.int z), some (.int y), some (.int b), some (.int w)], [], ph, 0, 0) := by
  refine gt_alu (st' := [.int (Int32.ofInt (-1))]) (ykc_201 (e := (0, .iconst (-1), 0)) rfl) rfl rfl ?_
  refine gt_load (v := .int y) (n := 1) (ykc_201 (e := (2, .iload_n kF2, 0)) rfl) rfl rfl ?_
  obtain ⟨r1, e_r1, h_r1⟩ : ∃ zq : Int32, (Int32.ofInt (-1)) - y = zq ∧ zq.toInt = -1 - y.toInt := ⟨_, rfl, by rw [ti_sub (by rw [xm1]; omega) (by rw [xm1]; omega), xm1]⟩
  refine gt_alu (st' := [.int r1]) (ykc_201 (e := (0, .isub, 0)) rfl) (by rw [← e_r1]; exact rfl) rfl ?_
  refine gt_ret (ykc_201 (e := (7, .ireturn, 0)) rfl) rfl ?_
  exact hQ _ (by omega) (fun q => by omega)
set_option maxRecDepth 6000 in
theorem xft_22 {m : Int} {D : Nat} {ph : pm_H} {Q : Option Value → pm_H → Prop} {z y b w xa : Int32} (hP : xH xX kK m 0 ph) (q15 : xget ph 170 15 = some (.int xa)) (hxa : 0 ≤ xa.toInt ∧ xa.toInt ≤ 80) (hy : y.toInt = 40) (hw : w.toInt ≠ 0 → b.toInt ≠ 0) (hQ : ∀ r : Int32, r.toInt ≤ 0 → (r.toInt = 0 → b.toInt ≠ 0) → Q (some (.int r)) ph) : xGT kK D 201 Q (22, [some (.ref 170), some (.int z), some (.int y), some (.int b), some (.int w)], [], ph, 0, 0) := by
  by_cases hz : z.toInt ≤ y.toInt
  · refine gt_load (v := .int z) (n := 1) (ykc_201 (e := (2, .iload_n kF1, 0)) rfl) rfl rfl ?_
    refine gt_load (v := .int y) (n := 1) (ykc_201 (e := (2, .iload_n kF2, 0)) rfl) rfl rfl ?_
    refine gt_ile_t (ykc_201 (e := (4, .if_icmp .le 20, 44)) rfl) hz ?_
    exact xft_44 hP q15 hxa hy hw hQ
  · refine gt_load (v := .int z) (n := 1) (ykc_201 (e := (2, .iload_n kF1, 0)) rfl) rfl rfl ?_
    refine gt_load (v := .int y) (n := 1) (ykc_201 (e := (2, .iload_n kF2, 0)) rfl) rfl rfl ?_
    refine gt_ile_f (ykc_201 (e := (4, .if_icmp .le 20, 44)) rfl) (by omega) rfl ?_
    refine gt_load (v := .int w) (n := 2) (ykc_201 (e := (2, .iload 4, 0)) rfl) rfl rfl ?_
    by_cases hw1 : w.toInt = 0
    · by_cases hlt : xa.toInt < y.toInt
      · refine gt_zne_f (ykc_201 (e := (4, .ifCond .ne 11, 40)) rfl) hw1 rfl ?_
        refine gt_load (v := .ref 170) (n := 1) (ykc_201 (e := (2, .aload_n kF0, 0)) rfl) rfl rfl ?_
        refine gt_gfk (v := .int xa) (ykc_201 (e := (5, .getfield 139, 0)) rfl) rfl hP q15 rfl ?_
        refine gt_load (v := .int y) (n := 1) (ykc_201 (e := (2, .iload_n kF2, 0)) rfl) rfl rfl ?_
        refine gt_ilt_t (ykc_201 (e := (4, .if_icmp .lt 7, 44)) rfl) hlt ?_
        exact xft_44 hP q15 hxa hy hw hQ
      · refine gt_zne_f (ykc_201 (e := (4, .ifCond .ne 11, 40)) rfl) hw1 rfl ?_
        refine gt_load (v := .ref 170) (n := 1) (ykc_201 (e := (2, .aload_n kF0, 0)) rfl) rfl rfl ?_
        refine gt_gfk (v := .int xa) (ykc_201 (e := (5, .getfield 139, 0)) rfl) rfl hP q15 rfl ?_
        refine gt_load (v := .int y) (n := 1) (ykc_201 (e := (2, .iload_n kF2, 0)) rfl) rfl rfl ?_
        refine gt_ilt_f (ykc_201 (e := (4, .if_icmp .lt 7, 44)) rfl) (by omega) rfl ?_
        exact xft_40 hP q15 hxa hy hw hQ
    · refine gt_zne_t (ykc_201 (e := (4, .ifCond .ne 11, 40)) rfl) hw1 ?_
      exact xft_40 hP q15 hxa hy hw hQ

set_option maxRecDepth 6000 in
theorem xfault {m : Int} {D : Nat} {ph : pm_H} {z y b xa xt : Int32} (hP : xH xX kK m 0 ph) (q15 : xget ph 170 15 = some (.int xa)) (q16 : xget ph 170 16 = some (.int xt)) (hxa : 0 ≤ xa.toInt ∧ xa.toInt ≤ 80) (hy : y.toInt = 40) : ∃ v ph', pm_Rd kK false (D + 1) 201 [.ref 170, .int z, .int y, .int b] ph (v, ph', 0, 0) ∧ (ph = ph' ∧ ∃ r : Int32, v = some (.int r) ∧ r.toInt ≤ 0 ∧ (r.toInt = 0 → b.toInt ≠ 0)) := by
  refine xRd_mk (nl := 5) rfl rfl ?_
  show xGT kK D 201 _ (0, [some (.ref 170), some (.int z), some (.int y), some (.int b), none], [], ph, 0, 0)
  have hQ : ∀ r : Int32, r.toInt ≤ 0 → (r.toInt = 0 → b.toInt ≠ 0) → (fun (v : Option Value) (ph' : pm_H) => ph = ph' ∧ ∃ r : Int32, v = some (.int r) ∧ r.toInt ≤ 0 ∧ (r.toInt = 0 → b.toInt ≠ 0)) (some (.int r)) ph := fun r h1 h2 => ⟨rfl, r, rfl, h1, h2⟩
  by_cases hb : b.toInt = 0
  · refine gt_load (v := .int b) (n := 1) (ykc_201 (e := (2, .iload_n kF3, 0)) rfl) rfl rfl ?_
    refine gt_zeq_t (ykc_201 (e := (4, .ifCond .eq 18, 19)) rfl) hb ?_
    refine gt_alu (st' := [.int (Int32.ofInt 0)]) (ykc_201 (e := (0, .iconst 0, 0)) rfl) rfl rfl ?_
    refine gt_store (L' := [some (.ref 170), some (.int z), some (.int y), some (.int b), some (.int (Int32.ofInt 0))]) (st' := []) (n := 2) (ykc_201 (e := (3, .istore 4, 0)) rfl) rfl rfl ?_
    exact xft_22 hP q15 hxa hy (fun q => absurd (by decide) q) hQ
  · by_cases he : xa.toInt = xt.toInt
    · refine gt_load (v := .int b) (n := 1) (ykc_201 (e := (2, .iload_n kF3, 0)) rfl) rfl rfl ?_
      refine gt_zeq_f (ykc_201 (e := (4, .ifCond .eq 18, 19)) rfl) hb rfl ?_
      refine gt_load (v := .ref 170) (n := 1) (ykc_201 (e := (2, .aload_n kF0, 0)) rfl) rfl rfl ?_
      refine gt_gfk (v := .int xa) (ykc_201 (e := (5, .getfield 139, 0)) rfl) rfl hP q15 rfl ?_
      refine gt_load (v := .ref 170) (n := 1) (ykc_201 (e := (2, .aload_n kF0, 0)) rfl) rfl rfl ?_
      refine gt_gfk (v := .int xt) (ykc_201 (e := (5, .getfield 151, 0)) rfl) rfl hP q16 rfl ?_
      refine gt_ine_f (ykc_201 (e := (4, .if_icmp .ne 7, 19)) rfl) (by omega) rfl ?_
      refine gt_alu (st' := [.int (Int32.ofInt 1)]) (ykc_201 (e := (0, .iconst 1, 0)) rfl) rfl rfl ?_
      refine gt_br (pc' := 20) (st' := [.int (Int32.ofInt 1)]) (ykc_201 (e := (4, .goto 4, 20)) rfl) rfl ?_
      refine gt_store (L' := [some (.ref 170), some (.int z), some (.int y), some (.int b), some (.int (Int32.ofInt 1))]) (st' := []) (n := 2) (ykc_201 (e := (3, .istore 4, 0)) rfl) rfl rfl ?_
      exact xft_22 hP q15 hxa hy (fun _ => hb) hQ
    · refine gt_load (v := .int b) (n := 1) (ykc_201 (e := (2, .iload_n kF3, 0)) rfl) rfl rfl ?_
      refine gt_zeq_f (ykc_201 (e := (4, .ifCond .eq 18, 19)) rfl) hb rfl ?_
      refine gt_load (v := .ref 170) (n := 1) (ykc_201 (e := (2, .aload_n kF0, 0)) rfl) rfl rfl ?_
      refine gt_gfk (v := .int xa) (ykc_201 (e := (5, .getfield 139, 0)) rfl) rfl hP q15 rfl ?_
      refine gt_load (v := .ref 170) (n := 1) (ykc_201 (e := (2, .aload_n kF0, 0)) rfl) rfl rfl ?_
      refine gt_gfk (v := .int xt) (ykc_201 (e := (5, .getfield 151, 0)) rfl) rfl hP q16 rfl ?_
      refine gt_ine_t (ykc_201 (e := (4, .if_icmp .ne 7, 19)) rfl) he ?_
      refine gt_alu (st' := [.int (Int32.ofInt 0)]) (ykc_201 (e := (0, .iconst 0, 0)) rfl) rfl rfl ?_
      refine gt_store (L' := [some (.ref 170), some (.int z), some (.int y), some (.int b), some (.int (Int32.ofInt 0))]) (st' := []) (n := 2) (ykc_201 (e := (3, .istore 4, 0)) rfl) rfl rfl ?_
      exact xft_22 hP q15 hxa hy (fun _ => hb) hQ

set_option maxRecDepth 6000 in
theorem xrrule {E : pm_H → Prop} (hE : xHE xX xgA_G73 xgF_G73 E) {m : Int} (hm : m ≤ 2147483646) (h0m : (0 : Int) ≤ m) {D : Nat} (hD : 100 ≤ D) {ph : pm_H} (hP : xH xX kK m 0 ph) (g9 : E ph) : ∃ v ph', pm_Rd kK false D 215 [.ref 170] ph (v, ph', 0, 0) ∧ (∃ (z : Int32) (c : Nat) (l : List Int32), v = some (.int z) ∧ xH xX kK m 0 ph' ∧ E ph' ∧ z.toInt ≤ 0 ∧ c ≤ 40 ∧ xiN ph' 24 c ∧ xiN ph' 14 0 ∧ pm_at ph' 180 = some (.inl (0, .inl l)) ∧ l.length = 80 ∧ (z.toInt = 0 → xvc (l.take c) 0 = true)) := by
  obtain ⟨D', rfl⟩ : ∃ D', D = D' + 1 + 1 := ⟨D - 2, by omega⟩
  have hE1 := hE
  have g9x := g9
  have hE2 : xHE xX xgA_RR xgF_RR (fun p => E p ∧ xiN p 14 0) := fun p p' hs hp => ⟨(xHE_sub (gA' := xgA_RR) (gF' := xgF_RR) (by decide +kernel) (by decide +kernel) hE) p p' hs hp.1, by
    obtain ⟨x, h1, h2⟩ := hp.2
    exact ⟨x, (hs.2 170 0 14 rfl List.mem_cons_self).symm.trans h1, h2⟩⟩
  refine xRd_mk (nl := 3) rfl rfl ?_
  show xGT kK (D' + 1) 215 _ (0, [some (.ref 170), none, none], [], ph, 0, 0)
  refine gt_load (v := .ref 170) (n := 1) (ykc_215 (e := (2, .aload_n kF0, 0)) rfl) rfl rfl ?_
  refine gt_push (v := .int ((Int8.ofInt 40).toInt32)) (n := 2) (ykc_215 (e := (1, .bipush 40, 0)) rfl) rfl rfl ?_
  refine gt_cv (n := 1) (as := [.ref 170, .int ((Int8.ofInt 40).toInt32)]) (r := []) (ykc_215 (e := (6, .invokevirtual 175, 0)) rfl) rfl hP rfl rfl rfl (xbegin hE1 hm h0m (by omega) x40 hP g9x) rfl (fun vv ph1 hv => ?_)
  obtain ⟨z1, T, e9, hP1, g91, hz1, qt, qa, qT, qn, hT⟩ := hv; subst e9
  change xGT kK (D' + 1) 215 _ (6, [some (.ref 170), none, none], [.int z1], ph1, 0, 0)
  refine gt_store (L' := [some (.ref 170), some (.int z1), none]) (st' := []) (n := 1) (ykc_215 (e := (3, .istore_n kF1, 0)) rfl) rfl rfl ?_
  refine gt_load (v := .ref 170) (n := 1) (ykc_215 (e := (2, .aload_n kF0, 0)) rfl) rfl rfl ?_
  refine gt_alu (st' := [.int (Int32.ofInt 0), .ref 170]) (ykc_215 (e := (0, .iconst 0, 0)) rfl) rfl rfl ?_
  refine gt_pf (y := Int32.ofInt 0) (ykc_215 (e := (5, .putfield 227, 0)) rfl) rfl hP1 rfl rfl (by decide) (by decide) rfl (fun ph2 hP2 u2 => ?_)
  obtain ⟨l, hat, hlen, -⟩ := xA_at (A := 180) hP2 rfl rfl
  obtain ⟨xt0, qt1, et1⟩ := qt
  obtain ⟨xa, qa1, ea1⟩ := qa
  obtain ⟨xT, qT1, eT1⟩ := qT
  obtain ⟨xn, qn1, en1⟩ := qn
  have qt2 : xget ph2 170 14 = some (.int xt0) := (u2.2.1 170 14 (by decide)).trans qt1
  have qa2 : xget ph2 170 15 = some (.int xa) := (u2.2.1 170 15 (by decide)).trans qa1
  have qT2 : xget ph2 170 16 = some (.int xT) := (u2.2.1 170 16 (by decide)).trans qT1
  have qn2 : xget ph2 170 17 = some (.int xn) := (u2.2.1 170 17 (by decide)).trans qn1
  have g2 : E ph2 ∧ xiN ph2 14 0 := ⟨xu1_E hE1 u2 rfl rfl rfl g91, xt0, qt2, et1⟩
  have hs2 : xps ph2 T 0 0 0 l := ⟨⟨xa, qa2, ea1⟩, ⟨xT, qT2, eT1⟩, ⟨xn, qn2, en1⟩, ⟨_, u2.1, by decide⟩, hat, hlen⟩
  by_cases hq1 : z1.toInt = 0
  · refine gt_load (v := .int z1) (n := 1) (ykc_215 (e := (2, .iload_n kF1, 0)) rfl) rfl rfl ?_
    refine gt_zeq_t (ykc_215 (e := (4, .ifCond .eq 11, 24)) rfl) hq1 ?_
    refine gt_alu (st' := [.int (Int32.ofInt 1)]) (ykc_215 (e := (0, .iconst 1, 0)) rfl) rfl rfl ?_
    refine gt_br (pc' := 29) (st' := [.int (Int32.ofInt 1)]) (ykc_215 (e := (4, .goto 4, 29)) rfl) rfl ?_
    refine gt_store (L' := [some (.ref 170), some (.int z1), some (.int (Int32.ofInt 1))]) (st' := []) (n := 1) (ykc_215 (e := (3, .istore_n kF2, 0)) rfl) rfl rfl ?_
    refine gt_load (v := .ref 170) (n := 1) (ykc_215 (e := (2, .aload_n kF0, 0)) rfl) rfl rfl ?_
    refine gt_load (v := .int z1) (n := 1) (ykc_215 (e := (2, .iload_n kF1, 0)) rfl) rfl rfl ?_
    refine gt_push (v := .int ((Int8.ofInt 40).toInt32)) (n := 2) (ykc_215 (e := (1, .bipush 40, 0)) rfl) rfl rfl ?_
    refine gt_load (v := .int (Int32.ofInt 1)) (n := 1) (ykc_215 (e := (2, .iload_n kF2, 0)) rfl) rfl rfl ?_
    refine gt_cv (n := 3) (as := [.ref 170, .int z1, .int ((Int8.ofInt 40).toInt32), .int (Int32.ofInt 1)]) (r := []) (ykc_215 (e := (6, .invokevirtual 213, 0)) rfl) rfl hP2 rfl rfl rfl (xfault (D := D') hP2 qa2 qT2 (by omega) x40) rfl (fun vv ph103 hv => ?_)
    obtain ⟨e8, r, e9, hr1, hr2⟩ := hv; subst e8; subst e9
    change xGT kK (D' + 1) 215 _ (38, [some (.ref 170), some (.int z1), some (.int (Int32.ofInt 1))], [.int r], ph2, 0, 0)
    refine gt_ret (ykc_215 (e := (7, .ireturn, 0)) rfl) rfl ?_
    exact ⟨r, 0, l, rfl, hP2, g2.1, hr1, by omega, ⟨_, u2.1, by decide⟩, g2.2, hat, hlen, fun _ => by rw [List.take_zero]; rfl⟩
  · refine gt_load (v := .int z1) (n := 1) (ykc_215 (e := (2, .iload_n kF1, 0)) rfl) rfl rfl ?_
    refine gt_zeq_f (ykc_215 (e := (4, .ifCond .eq 11, 24)) rfl) hq1 rfl ?_
    refine gt_load (v := .ref 170) (n := 1) (ykc_215 (e := (2, .aload_n kF0, 0)) rfl) rfl rfl ?_
    refine gt_alu (st' := [.int (Int32.ofInt 0), .ref 170]) (ykc_215 (e := (0, .iconst 0, 0)) rfl) rfl rfl ?_
    refine gt_cv (n := 1) (as := [.ref 170, .int (Int32.ofInt 0)]) (r := []) (ykc_215 (e := (6, .invokevirtual 239, 0)) rfl) rfl hP2 rfl rfl rfl ((xread_all hE2 hm h0m 70).2 (D' + 1) ph2 T 0 0 0 0 _ l (by omega) hP2 g2 hs2 (by omega) hT (by omega) (by omega) (by decide) (by omega) (by omega)) rfl (fun vv ph103 hv => ?_)
    obtain ⟨z3, a3, n3, c3, l3, e9, hP3, g93, hs3, hr3⟩ := hv; subst e9
    change xGT kK (D' + 1) 215 _ (21, [some (.ref 170), some (.int z1), none], [.int z3], ph103, 0, 0)
    obtain ⟨⟨xa3, qa3, ea3⟩, ⟨xT3, qT3, eT3⟩, -, ⟨xc3, qc3, ec3⟩, hat3, hlen3⟩ := id hs3
    obtain ⟨b1, b2, b3, b4, b5, b6, b7⟩ := hr3
    by_cases hq3 : z3.toInt = 0
    · refine gt_zeq_t (ykc_215 (e := (4, .ifCond .eq 7, 28)) rfl) hq3 ?_
      refine gt_alu (st' := [.int (Int32.ofInt 0)]) (ykc_215 (e := (0, .iconst 0, 0)) rfl) rfl rfl ?_
      refine gt_store (L' := [some (.ref 170), some (.int z1), some (.int (Int32.ofInt 0))]) (st' := []) (n := 1) (ykc_215 (e := (3, .istore_n kF2, 0)) rfl) rfl rfl ?_
      refine gt_load (v := .ref 170) (n := 1) (ykc_215 (e := (2, .aload_n kF0, 0)) rfl) rfl rfl ?_
      refine gt_load (v := .int z1) (n := 1) (ykc_215 (e := (2, .iload_n kF1, 0)) rfl) rfl rfl ?_
      refine gt_push (v := .int ((Int8.ofInt 40).toInt32)) (n := 2) (ykc_215 (e := (1, .bipush 40, 0)) rfl) rfl rfl ?_
      refine gt_load (v := .int (Int32.ofInt 0)) (n := 1) (ykc_215 (e := (2, .iload_n kF2, 0)) rfl) rfl rfl ?_
      refine gt_cv (n := 3) (as := [.ref 170, .int z1, .int ((Int8.ofInt 40).toInt32), .int (Int32.ofInt 0)]) (r := []) (ykc_215 (e := (6, .invokevirtual 213, 0)) rfl) rfl hP3 rfl rfl rfl (xfault (D := D') hP3 qa3 qT3 (by omega) x40) rfl (fun vv ph204 hv => ?_)
      obtain ⟨e8, r, e9, hr1, hr2⟩ := hv; subst e8; subst e9
      change xGT kK (D' + 1) 215 _ (38, [some (.ref 170), some (.int z1), some (.int (Int32.ofInt 0))], [.int r], ph103, 0, 0)
      refine gt_ret (ykc_215 (e := (7, .ireturn, 0)) rfl) rfl ?_
      exact ⟨r, c3, l3, rfl, hP3, g93.1, hr1, by omega, ⟨xc3, qc3, ec3⟩, g93.2, hat3, hlen3, fun q => absurd (by decide) (hr2 q)⟩
    · obtain ⟨-, seg, hseg, htk⟩ := b7 (by omega)
      refine gt_zeq_f (ykc_215 (e := (4, .ifCond .eq 7, 28)) rfl) hq3 rfl ?_
      refine gt_alu (st' := [.int (Int32.ofInt 1)]) (ykc_215 (e := (0, .iconst 1, 0)) rfl) rfl rfl ?_
      refine gt_br (pc' := 29) (st' := [.int (Int32.ofInt 1)]) (ykc_215 (e := (4, .goto 4, 29)) rfl) rfl ?_
      refine gt_store (L' := [some (.ref 170), some (.int z1), some (.int (Int32.ofInt 1))]) (st' := []) (n := 1) (ykc_215 (e := (3, .istore_n kF2, 0)) rfl) rfl rfl ?_
      refine gt_load (v := .ref 170) (n := 1) (ykc_215 (e := (2, .aload_n kF0, 0)) rfl) rfl rfl ?_
      refine gt_load (v := .int z1) (n := 1) (ykc_215 (e := (2, .iload_n kF1, 0)) rfl) rfl rfl ?_
      refine gt_push (v := .int ((Int8.ofInt 40).toInt32)) (n := 2) (ykc_215 (e := (1, .bipush 40, 0)) rfl) rfl rfl ?_
      refine gt_load (v := .int (Int32.ofInt 1)) (n := 1) (ykc_215 (e := (2, .iload_n kF2, 0)) rfl) rfl rfl ?_
      refine gt_cv (n := 3) (as := [.ref 170, .int z1, .int ((Int8.ofInt 40).toInt32), .int (Int32.ofInt 1)]) (r := []) (ykc_215 (e := (6, .invokevirtual 213, 0)) rfl) rfl hP3 rfl rfl rfl (xfault (D := D') hP3 qa3 qT3 (by omega) x40) rfl (fun vv ph204 hv => ?_)
      obtain ⟨e8, r, e9, hr1, hr2⟩ := hv; subst e8; subst e9
      change xGT kK (D' + 1) 215 _ (38, [some (.ref 170), some (.int z1), some (.int (Int32.ofInt 1))], [.int r], ph103, 0, 0)
      refine gt_ret (ykc_215 (e := (7, .ireturn, 0)) rfl) rfl ?_
      refine ⟨r, c3, l3, rfl, hP3, g93.1, hr1, by omega, ⟨xc3, qc3, ec3⟩, g93.2, hat3, hlen3, fun _ => ?_⟩
      rw [List.take_zero, List.nil_append] at htk
      have hl := congrArg List.length htk
      rw [List.length_take, hlen3] at hl
      have h9 := hseg 0 [] (by omega) rfl
      rw [List.append_nil] at h9
      rw [htk]
      exact h9

set_option maxRecDepth 6000 in
theorem x_ofN {n : Nat} {y : Int32} (hn : n ≤ 80) (hy : y.toInt = (n : Int)) : y = Int32.ofNat n := by
  apply Int32.toInt_inj.mp
  rw [hy, Int32.toInt_ofNat_of_lt (by omega)]

set_option maxRecDepth 6000 in
theorem xlc_loopR {E : pm_H → Prop} (hE : xHE xX xgA_G74 xgF_G74 E) {m : Int} {D : Nat} {Q : Option Value → pm_H → Prop} {y : Int32} {n : Nat} {l : List Int32} (hn : n ≤ 80) (hll : l.length = 80) (hy : y.toInt = (n : Int)) (hQ : ∀ ph' l', xH xX kK m 0 ph' → E ph' → xget ph' 170 23 = some (.int y) → pm_at ph' 179 = some (.inl (0, .inl l')) → pm_at ph' 180 = some (.inl (0, .inl l)) → l'.take n = l.take n → Q none ph') : ∀ (s i : Nat) (x : Int32) (l2 : List Int32) (ph : pm_H), n - i < s → i ≤ n → x.toInt = (i : Int) → xH xX kK m 0 ph → E ph → xget ph 170 23 = some (.int y) → pm_at ph 179 = some (.inl (0, .inl l2)) → l2.length = 80 → pm_at ph 180 = some (.inl (0, .inl l)) → l2.take i = l.take i → xGT kK D 216 Q (7, [some (.ref 170), some (.ref 180), some (.int y), some (.int x)], [], ph, 0, 0) := by
  intro s
  induction s with
  | zero => intro i x l2 ph h; omega
  | succ s ih =>
    intro i x l2 ph hs hi hx hP g9 q23 hat hlen hal htk
    by_cases hin : i = n
    · subst hin
      refine gt_load (v := .int x) (n := 1) (ykc_216 (e := (2, .iload_n kF3, 0)) rfl) rfl rfl ?_
      refine gt_load (v := .int y) (n := 1) (ykc_216 (e := (2, .iload_n kF2, 0)) rfl) rfl rfl ?_
      refine gt_ige_t (ykc_216 (e := (4, .if_icmp .ge 18, 27)) rfl) (by omega) ?_
      refine gt_ret (ykc_216 (e := (7, .return_, 0)) rfl) rfl ?_
      exact hQ ph l2 hP g9 q23 hat hal htk
    · have hi2 : i < n := by omega
      refine gt_load (v := .int x) (n := 1) (ykc_216 (e := (2, .iload_n kF3, 0)) rfl) rfl rfl ?_
      refine gt_load (v := .int y) (n := 1) (ykc_216 (e := (2, .iload_n kF2, 0)) rfl) rfl rfl ?_
      refine gt_ige_f (ykc_216 (e := (4, .if_icmp .ge 18, 27)) rfl) (by omega) rfl ?_
      refine gt_load (v := .ref 170) (n := 1) (ykc_216 (e := (2, .aload_n kF0, 0)) rfl) rfl rfl ?_
      refine gt_gfr (A := 179) (ykc_216 (e := (5, .getfield 56, 0)) rfl) rfl hP rfl rfl rfl ?_
      refine gt_load (v := .int x) (n := 1) (ykc_216 (e := (2, .iload_n kF3, 0)) rfl) rfl rfl ?_
      refine gt_load (v := .ref 180) (n := 1) (ykc_216 (e := (2, .aload_n kF1, 0)) rfl) rfl rfl ?_
      refine gt_load (v := .int x) (n := 1) (ykc_216 (e := (2, .iload_n kF3, 0)) rfl) rfl rfl ?_
      refine gt_ial (A := 180) (ykc_216 (e := (5, .iaload, 0)) rfl) hP rfl rfl (by omega) (by omega) rfl (fun e0 g_e0 b_e0 => ?_)
      refine gt_ias (A := 179) (y := e0) (x := x) (ykc_216 (e := (5, .iastore, 0)) rfl) hP rfl rfl (by omega) (by omega) xany rfl (fun ph101 hP101 u101 => ?_)
      have f101_23 : xget ph101 170 23 = some (.int y) := (u101.2.1 170 23 (fun q => absurd q.1 (by decide))).trans q23
      obtain ⟨x1, e_x1, h_x1⟩ : ∃ zq : Int32, x + Int32.ofInt 1 = zq ∧ zq.toInt = x.toInt + 1 := ⟨_, rfl, by rw [ti_add (by rw [xi1]; omega) (by rw [xi1]; omega), xi1]⟩
      refine gt_store (L' := [some (.ref 170), some (.ref 180), some (.int y), some (.int x1)]) (st' := []) (n := 3) (ykc_216 (e := (3, .iinc 3 1, 0)) rfl) (by rw [← e_x1]; rfl) rfl ?_
      refine gt_br (pc' := 7) (st' := []) (ykc_216 (e := (4, .goto (-17), 7)) rfl) rfl ?_
      obtain ⟨l3, hat3, hlen3, -⟩ := xA_at (A := 179) hP101 rfl rfl
      have el := xu1_list hat hat3 (by omega) (by omega) u101
      have ek : x.toInt.toNat = i := by omega
      rw [ek] at el
      have ge : l[i]? = some e0 := by
        have g := g_e0
        unfold xget at g
        rw [hal, ek] at g
        have g : (l[i]?).map Value.int = some (.int e0) := g
        obtain ⟨w, w1, w2⟩ := Option.map_eq_some_iff.mp g
        cases w2
        exact w1
      refine ih (i + 1) x1 l3 _ (by omega) (by omega) (by omega) hP101 (xu1_E hE u101 rfl rfl rfl g9) ((u101.2.1 170 23 (fun q => absurd q.1 (by decide))).trans q23) hat3 (by omega) ((u101.2.2 180 (by decide)).trans hal) ?_
      rw [el, xtake_set (by omega), htk, List.take_succ, ge]
      rfl

set_option maxRecDepth 6000 in
theorem xlaycR {E : pm_H → Prop} (hE : xHE xX xgA_G74 xgF_G74 E) {m : Int} {D : Nat} {y : Int32} {n : Nat} {ph : pm_H} {l : List Int32} (hn : n ≤ 80) (hll : l.length = 80) (hy : y.toInt = (n : Int)) (hP : xH xX kK m 0 ph) (g9 : E ph) (hal : pm_at ph 180 = some (.inl (0, .inl l))) (hv : xvc (l.take n) 0 = true) : ∃ v ph', pm_Rd kK false (D + 1) 216 [.ref 170, .ref 180, .int y] ph (v, ph', 0, 0) ∧ (v = none ∧ xH xX kK m 0 ph' ∧ E ph' ∧ xV ph' ∧ pm_at ph' 180 = some (.inl (0, .inl l))) := by
  refine xRd_mk (nl := 4) rfl rfl ?_
  show xGT kK D 216 _ (0, [some (.ref 170), some (.ref 180), some (.int y), none], [], ph, 0, 0)
  refine gt_load (v := .ref 170) (n := 1) (ykc_216 (e := (2, .aload_n kF0, 0)) rfl) rfl rfl ?_
  refine gt_load (v := .int y) (n := 1) (ykc_216 (e := (2, .iload_n kF2, 0)) rfl) rfl rfl ?_
  refine gt_pf (y := y) (ykc_216 (e := (5, .putfield 248, 0)) rfl) rfl hP rfl rfl (by show 0 ≤ y.toInt; omega) (by show y.toInt ≤ 80; omega) rfl (fun ph1 hP1 u1 => ?_)
  refine gt_alu (st' := [.int (Int32.ofInt 0)]) (ykc_216 (e := (0, .iconst 0, 0)) rfl) rfl rfl ?_
  refine gt_store (L' := [some (.ref 170), some (.ref 180), some (.int y), some (.int (Int32.ofInt 0))]) (st' := []) (n := 1) (ykc_216 (e := (3, .istore_n kF3, 0)) rfl) rfl rfl ?_
  obtain ⟨l2, hat, hlen, -⟩ := xA_at (A := 179) hP1 rfl rfl
  refine xlc_loopR hE hn hll hy (fun ph' l' h1 h2 h3 h4 h5 h6 => ⟨rfl, h1, h2, ⟨l', n, h4, ?_, hn, by rw [h6]; exact hv⟩, h5⟩) (n + 1) 0 _ l2 _ (by omega) (by omega) (by decide) hP1 (xu1_E hE u1 rfl rfl rfl g9) u1.1 hat hlen ((u1.2.2 180 (by decide)).trans hal) (by rw [List.take_zero, List.take_zero])
  rw [h3]
  exact congrArg (fun q => some (Value.int q)) (x_ofN hn hy)

set_option maxRecDepth 6000 in
theorem xlc_loopW {E : pm_H → Prop} (hE : xHE xX xgA_G74 xgF_G74 E) {m : Int} {D : Nat} {Q : Option Value → pm_H → Prop} {y : Int32} {n : Nat} {l : List Int32} (hn : n ≤ 80) (hll : l.length = 80) (hy : y.toInt = (n : Int)) (hQ : ∀ ph' l', xH xX kK m 0 ph' → E ph' → xget ph' 170 23 = some (.int y) → pm_at ph' 179 = some (.inl (0, .inl l')) → pm_at ph' 197 = some (.inl (0, .inl l)) → l'.take n = l.take n → Q none ph') : ∀ (s i : Nat) (x : Int32) (l2 : List Int32) (ph : pm_H), n - i < s → i ≤ n → x.toInt = (i : Int) → xH xX kK m 0 ph → E ph → xget ph 170 23 = some (.int y) → pm_at ph 179 = some (.inl (0, .inl l2)) → l2.length = 80 → pm_at ph 197 = some (.inl (0, .inl l)) → l2.take i = l.take i → xGT kK D 216 Q (7, [some (.ref 170), some (.ref 197), some (.int y), some (.int x)], [], ph, 0, 0) := by
  intro s
  induction s with
  | zero => intro i x l2 ph h; omega
  | succ s ih =>
    intro i x l2 ph hs hi hx hP g9 q23 hat hlen hal htk
    by_cases hin : i = n
    · subst hin
      refine gt_load (v := .int x) (n := 1) (ykc_216 (e := (2, .iload_n kF3, 0)) rfl) rfl rfl ?_
      refine gt_load (v := .int y) (n := 1) (ykc_216 (e := (2, .iload_n kF2, 0)) rfl) rfl rfl ?_
      refine gt_ige_t (ykc_216 (e := (4, .if_icmp .ge 18, 27)) rfl) (by omega) ?_
      refine gt_ret (ykc_216 (e := (7, .return_, 0)) rfl) rfl ?_
      exact hQ ph l2 hP g9 q23 hat hal htk
    · have hi2 : i < n := by omega
      refine gt_load (v := .int x) (n := 1) (ykc_216 (e := (2, .iload_n kF3, 0)) rfl) rfl rfl ?_
      refine gt_load (v := .int y) (n := 1) (ykc_216 (e := (2, .iload_n kF2, 0)) rfl) rfl rfl ?_
      refine gt_ige_f (ykc_216 (e := (4, .if_icmp .ge 18, 27)) rfl) (by omega) rfl ?_
      refine gt_load (v := .ref 170) (n := 1) (ykc_216 (e := (2, .aload_n kF0, 0)) rfl) rfl rfl ?_
      refine gt_gfr (A := 179) (ykc_216 (e := (5, .getfield 56, 0)) rfl) rfl hP rfl rfl rfl ?_
      refine gt_load (v := .int x) (n := 1) (ykc_216 (e := (2, .iload_n kF3, 0)) rfl) rfl rfl ?_
      refine gt_load (v := .ref 197) (n := 1) (ykc_216 (e := (2, .aload_n kF1, 0)) rfl) rfl rfl ?_
      refine gt_load (v := .int x) (n := 1) (ykc_216 (e := (2, .iload_n kF3, 0)) rfl) rfl rfl ?_
      refine gt_ial (A := 197) (ykc_216 (e := (5, .iaload, 0)) rfl) hP rfl rfl (by omega) (by omega) rfl (fun e0 g_e0 b_e0 => ?_)
      refine gt_ias (A := 179) (y := e0) (x := x) (ykc_216 (e := (5, .iastore, 0)) rfl) hP rfl rfl (by omega) (by omega) xany rfl (fun ph101 hP101 u101 => ?_)
      have f101_23 : xget ph101 170 23 = some (.int y) := (u101.2.1 170 23 (fun q => absurd q.1 (by decide))).trans q23
      obtain ⟨x1, e_x1, h_x1⟩ : ∃ zq : Int32, x + Int32.ofInt 1 = zq ∧ zq.toInt = x.toInt + 1 := ⟨_, rfl, by rw [ti_add (by rw [xi1]; omega) (by rw [xi1]; omega), xi1]⟩
      refine gt_store (L' := [some (.ref 170), some (.ref 197), some (.int y), some (.int x1)]) (st' := []) (n := 3) (ykc_216 (e := (3, .iinc 3 1, 0)) rfl) (by rw [← e_x1]; rfl) rfl ?_
      refine gt_br (pc' := 7) (st' := []) (ykc_216 (e := (4, .goto (-17), 7)) rfl) rfl ?_
      obtain ⟨l3, hat3, hlen3, -⟩ := xA_at (A := 179) hP101 rfl rfl
      have el := xu1_list hat hat3 (by omega) (by omega) u101
      have ek : x.toInt.toNat = i := by omega
      rw [ek] at el
      have ge : l[i]? = some e0 := by
        have g := g_e0
        unfold xget at g
        rw [hal, ek] at g
        have g : (l[i]?).map Value.int = some (.int e0) := g
        obtain ⟨w, w1, w2⟩ := Option.map_eq_some_iff.mp g
        cases w2
        exact w1
      refine ih (i + 1) x1 l3 _ (by omega) (by omega) (by omega) hP101 (xu1_E hE u101 rfl rfl rfl g9) ((u101.2.1 170 23 (fun q => absurd q.1 (by decide))).trans q23) hat3 (by omega) ((u101.2.2 197 (by decide)).trans hal) ?_
      rw [el, xtake_set (by omega), htk, List.take_succ, ge]
      rfl

set_option maxRecDepth 6000 in
theorem xlaycW {E : pm_H → Prop} (hE : xHE xX xgA_G74 xgF_G74 E) {m : Int} {D : Nat} {y : Int32} {n : Nat} {ph : pm_H} {l : List Int32} (hn : n ≤ 80) (hll : l.length = 80) (hy : y.toInt = (n : Int)) (hP : xH xX kK m 0 ph) (g9 : E ph) (hal : pm_at ph 197 = some (.inl (0, .inl l))) (hv : xvc (l.take n) 0 = true) : ∃ v ph', pm_Rd kK false (D + 1) 216 [.ref 170, .ref 197, .int y] ph (v, ph', 0, 0) ∧ (v = none ∧ xH xX kK m 0 ph' ∧ E ph' ∧ xV ph' ∧ pm_at ph' 197 = some (.inl (0, .inl l))) := by
  refine xRd_mk (nl := 4) rfl rfl ?_
  show xGT kK D 216 _ (0, [some (.ref 170), some (.ref 197), some (.int y), none], [], ph, 0, 0)
  refine gt_load (v := .ref 170) (n := 1) (ykc_216 (e := (2, .aload_n kF0, 0)) rfl) rfl rfl ?_
  refine gt_load (v := .int y) (n := 1) (ykc_216 (e := (2, .iload_n kF2, 0)) rfl) rfl rfl ?_
  refine gt_pf (y := y) (ykc_216 (e := (5, .putfield 248, 0)) rfl) rfl hP rfl rfl (by show 0 ≤ y.toInt; omega) (by show y.toInt ≤ 80; omega) rfl (fun ph1 hP1 u1 => ?_)
  refine gt_alu (st' := [.int (Int32.ofInt 0)]) (ykc_216 (e := (0, .iconst 0, 0)) rfl) rfl rfl ?_
  refine gt_store (L' := [some (.ref 170), some (.ref 197), some (.int y), some (.int (Int32.ofInt 0))]) (st' := []) (n := 1) (ykc_216 (e := (3, .istore_n kF3, 0)) rfl) rfl rfl ?_
  obtain ⟨l2, hat, hlen, -⟩ := xA_at (A := 179) hP1 rfl rfl
  refine xlc_loopW hE hn hll hy (fun ph' l' h1 h2 h3 h4 h5 h6 => ⟨rfl, h1, h2, ⟨l', n, h4, ?_, hn, by rw [h6]; exact hv⟩, h5⟩) (n + 1) 0 _ l2 _ (by omega) (by omega) (by decide) hP1 (xu1_E hE u1 rfl rfl rfl g9) u1.1 hat hlen ((u1.2.2 197 (by decide)).trans hal) (by rw [List.take_zero, List.take_zero])
  rw [h3]
  exact congrArg (fun q => some (Value.int q)) (x_ofN hn hy)

set_option maxRecDepth 6000 in
theorem xrule {E : pm_H → Prop} (hE : xHE xX xgA_G75 xgF_G75 E) {m : Int} (hm : m ≤ 2147483646) (h0m : (0 : Int) ≤ m) {D : Nat} (hD : 110 ≤ D) {ph : pm_H} (hP : xH xX kK m 0 ph) (g9 : E ph) (hV : xV ph) : ∃ v ph', pm_Rd kK false D 217 [.ref 170] ph (v, ph', 0, 0) ∧ (∃ z : Int32, v = some (.int z) ∧ z.toInt ≤ 0 ∧ xH xX kK m 0 ph' ∧ E ph' ∧ xV ph' ∧ xiN ph' 14 0) := by
  obtain ⟨D', rfl⟩ : ∃ D', D = D' + 1 + 1 := ⟨D - 2, by omega⟩
  have hE1 := hE
  have hE2 : xHE xX xgA_G73 xgF_G73 (fun p => E p ∧ xV p) := fun p p' hs hp => ⟨(xHE_sub (gA' := xgA_G73) (gF' := xgF_G73) (by decide +kernel) (by decide +kernel) hE) p p' hs hp.1, (xHE_sub (gA' := xgA_G73) (gF' := xgF_G73) (by decide +kernel) (by decide +kernel) xHEV) p p' hs hp.2⟩
  have hE3 : xHE xX xgA_G74 xgF_G74 (fun p => E p ∧ xiN p 14 0) := fun p p' hs hp => ⟨(xHE_sub (gA' := xgA_G74) (gF' := xgF_G74) (by decide +kernel) (by decide +kernel) hE) p p' hs hp.1, by
    obtain ⟨x, h1, h2⟩ := hp.2
    exact ⟨x, (hs.2 170 0 14 rfl (by decide)).symm.trans h1, h2⟩⟩
  refine xRd_mk (nl := 2) rfl rfl ?_
  show xGT kK (D' + 1) 217 _ (0, [some (.ref 170), none], [], ph, 0, 0)
  refine gt_load (v := .ref 170) (n := 1) (ykc_217 (e := (2, .aload_n kF0, 0)) rfl) rfl rfl ?_
  refine gt_alu (st' := [.int (Int32.ofInt 0), .ref 170]) (ykc_217 (e := (0, .iconst 0, 0)) rfl) rfl rfl ?_
  refine gt_pf (y := Int32.ofInt 0) (ykc_217 (e := (5, .putfield 3, 0)) rfl) rfl hP rfl rfl (by decide) (by decide) rfl (fun ph1 hP1 u1 => ?_)
  have g1 : E ph1 ∧ xV ph1 := ⟨xu1_E hE1 u1 rfl rfl rfl g9, xu1_E xHEV u1 rfl rfl rfl hV⟩
  refine gt_load (v := .ref 170) (n := 1) (ykc_217 (e := (2, .aload_n kF0, 0)) rfl) rfl rfl ?_
  refine gt_cv (n := 0) (as := [.ref 170]) (r := []) (ykc_217 (e := (6, .invokevirtual 251, 0)) rfl) rfl hP1 rfl rfl rfl (xrrule hE2 hm h0m (by omega) hP1 g1) rfl (fun vv ph2 hv => ?_)
  obtain ⟨z1, c, l, e9, hP2, g2, hz, hc, ⟨xc, qc, ec⟩, ht, hat, hlen, hvc⟩ := hv; subst e9
  change xGT kK (D' + 1) 217 _ (9, [some (.ref 170), none], [.int z1], ph2, 0, 0)
  refine gt_store (L' := [some (.ref 170), some (.int z1)]) (st' := []) (n := 1) (ykc_217 (e := (3, .istore_n kF1, 0)) rfl) rfl rfl ?_
  by_cases hq : z1.toInt ≠ 0
  · refine gt_load (v := .int z1) (n := 1) (ykc_217 (e := (2, .iload_n kF1, 0)) rfl) rfl rfl ?_
    refine gt_zne_t (ykc_217 (e := (4, .ifCond .ne 15, 26)) rfl) hq ?_
    refine gt_load (v := .int z1) (n := 1) (ykc_217 (e := (2, .iload_n kF1, 0)) rfl) rfl rfl ?_
    refine gt_ret (ykc_217 (e := (7, .ireturn, 0)) rfl) rfl ?_
    exact ⟨z1, rfl, hz, hP2, g2.1, g2.2, ht⟩
  · refine gt_load (v := .int z1) (n := 1) (ykc_217 (e := (2, .iload_n kF1, 0)) rfl) rfl rfl ?_
    refine gt_zne_f (ykc_217 (e := (4, .ifCond .ne 15, 26)) rfl) (by omega) rfl ?_
    refine gt_load (v := .ref 170) (n := 1) (ykc_217 (e := (2, .aload_n kF0, 0)) rfl) rfl rfl ?_
    refine gt_load (v := .ref 170) (n := 1) (ykc_217 (e := (2, .aload_n kF0, 0)) rfl) rfl rfl ?_
    refine gt_gfr (A := 180) (ykc_217 (e := (5, .getfield 59, 0)) rfl) rfl hP2 rfl rfl rfl ?_
    refine gt_load (v := .ref 170) (n := 1) (ykc_217 (e := (2, .aload_n kF0, 0)) rfl) rfl rfl ?_
    refine gt_gfk (v := .int xc) (ykc_217 (e := (5, .getfield 227, 0)) rfl) rfl hP2 qc rfl ?_
    refine gt_cv (n := 2) (as := [.ref 170, .ref 180, .int xc]) (r := []) (ykc_217 (e := (6, .invokevirtual 254, 0)) rfl) rfl hP2 rfl rfl rfl (xlaycR (D := D') (n := c) hE3 (by omega) hlen ec hP2 ⟨g2.1, ht⟩ hat (hvc (by omega))) rfl (fun vv ph103 hv => ?_)
    obtain ⟨e9, hP3, g3, hV3, -⟩ := hv; subst e9
    change xGT kK (D' + 1) 217 _ (26, [some (.ref 170), some (.int z1)], [], ph103, 0, 0)
    refine gt_load (v := .int z1) (n := 1) (ykc_217 (e := (2, .iload_n kF1, 0)) rfl) rfl rfl ?_
    refine gt_ret (ykc_217 (e := (7, .ireturn, 0)) rfl) rfl ?_
    exact ⟨z1, rfl, hz, hP3, g3.1, hV3, g3.2⟩
end
section
/-! the call law of the reference, by hand, printed by wip/x/h_xlaw.py -/
set_option maxRecDepth 6000 in
theorem xallseen {E : pm_H → Prop} (hE : xHE xX xgA_G8 xgF_G8 E) (hV : ∀ p, E p → xV p) {m : Int} (hm : m ≤ 2147483646) (h0m : (0 : Int) ≤ m) {D : Nat} (hD : 13 ≤ D) {ph : pm_H} (hP : xH xX kK m 0 ph) (g9 : E ph) : ∃ v ph', pm_Rd kK false D 227 [.ref 170, .ref 174] ph (v, ph', 0, 0) ∧ (∃ z : Int64, v = some (.long z) ∧ xH xX kK m 0 ph' ∧ E ph') := by
  obtain ⟨v, ph', k1, k2, k3, ⟨u, e, z, e2, -⟩, -⟩ := (xn_227_0 hE hV) D hD m hm h0m [.ref 170, .ref 174] ph ⟨xaRi rfl (by decide), xaRi rfl (by decide), trivial⟩ xF0 hP g9
  exact ⟨v, ph', k1, z, by rw [e, e2], k2, k3⟩
set_option maxRecDepth 6000 in
theorem xbits {E : pm_H → Prop} {m : Int} (hm : m ≤ 2147483646) (h0m : (0 : Int) ≤ m) {D : Nat} (hD : 1 ≤ D) {ph : pm_H} {x : Int64} (hP : xH xX kK m 0 ph) (g9 : E ph) : ∃ v ph', pm_Rd kK false D 305 [.long x] ph (v, ph', 0, 0) ∧ (∃ z : Int32, v = some (.int z) ∧ xH xX kK m 0 ph' ∧ E ph') := by
  obtain ⟨v, ph', k1, k2, k3, ⟨u, e, z, e2, -⟩, -⟩ := (xn_305_0 (E := E)) D hD m hm h0m [.long x] ph ⟨xaL, trivial⟩ xF0 hP g9
  exact ⟨v, ph', k1, z, by rw [e, e2], k2, k3⟩
set_option maxRecDepth 6000 in
theorem xent_all : (List.range 2).all (fun k => xs_186 (xhmV 1 [.inr (.inr (.inl 0)), .inr (.inl (Int.negSucc 9223372036854775807, Int.ofNat 9223372036854775807))]) (xrsA xX [(none, [(696321, .inl (Int.ofNat (k + 1), Int.ofNat (k + 1)))])]) (4, [], [], xhmF 3 [(696321, .inl (Int.ofNat k, Int.ofNat k))], 0, [])) = true := by decide +kernel
set_option maxRecDepth 6000 in
theorem xenter {E : pm_H → Prop} (hE : xHE xX xgA_G58 xgF_G58 E) {m : Int} (hm : m ≤ 2147483646) (h0m : (0 : Int) ≤ m) {D : Nat} (hD : 1 ≤ D) {ph : pm_H} {x : Int64} {k : Nat} (hk : k < 2) (hP : xH xX kK m 0 ph) (g9 : E ph) (q1 : xiN ph 1 k) : ∃ v ph', pm_Rd kK false D 186 [.ref 170, .long x] ph (v, ph', 0, 0) ∧ (v = none ∧ xH xX kK m 0 ph' ∧ E ph' ∧ xiN ph' 1 (k + 1)) := by
  obtain ⟨y, y1, y2⟩ := q1
  obtain ⟨v, ph', k1, k2, k3, q, hq, k4, k5⟩ := xcok_alt (pre := [.inr (.inr (.inl 0)), .inr (.inl (Int.negSucc 9223372036854775807, Int.ofNat 9223372036854775807))]) (fp := [(696321, .inl (Int.ofNat k, Int.ofNat k))]) (xso_186 hE) (List.all_eq_true.mp xent_all k (List.mem_range.mpr hk)) D hD m hm h0m [.ref 170, .long x] ph ⟨xaRi rfl (by decide), xaL, trivial⟩ (xF1 (k := 696321) (x := y) (by decide) y1 (by show (k : Int) ≤ y.toInt; omega) (by show y.toInt ≤ (k : Int); omega)) hP g9
  have e := List.mem_singleton.mp hq
  subst e
  obtain ⟨x1, a1, b1, c1⟩ := xF_in (a := 170) (c := 1) k5 List.mem_cons_self (by decide) (by decide)
  have b1 : ((k + 1 : Nat) : Int) ≤ x1.toInt := b1
  have c1 : x1.toInt ≤ ((k + 1 : Nat) : Int) := c1
  exact ⟨v, ph', k1, k4, k2, k3, x1, a1, by omega⟩
noncomputable def xgA_LW : List Nat := 9 :: 10 :: xgA_G101
noncomputable def xgF_LW : List (Nat × Nat) := (0, 14) :: xgF_G101
set_option maxRecDepth 6000 in
theorem xHE_iN {gA : List Nat} {gF : List (Nat × Nat)} {k n : Nat} (h : xmemP gF 0 k = true) : xHE xX gA gF (fun p => xiN p k n) := fun p p' hs hp => by
  obtain ⟨x, h1, h2⟩ := hp
  exact ⟨x, (hs.2 170 0 k rfl (xmemP_in h)).symm.trans h1, h2⟩
set_option maxRecDepth 6000 in
theorem xHE_g {gA : List Nat} {gF : List (Nat × Nat)} {k : Nat} {v : Value} (h : xmemP gF 0 k = true) : xHE xX gA gF (fun p => xget p 170 k = some v) := fun p p' hs hp => (hs.2 170 0 k rfl (xmemP_in h)).symm.trans hp
set_option maxRecDepth 6000 in
theorem xHE_at {gA : List Nat} {gF : List (Nat × Nat)} {a i : Nat} {c : Option pm_C} (ho : xown a = some i) (h : xmemN gA i = true) : xHE xX gA gF (fun p => pm_at p a = c) := fun p p' hs hp => (hs.1 a i ho (xmemN_in h)).symm.trans hp
set_option maxRecDepth 6000 in
theorem xHE_and {gA : List Nat} {gF : List (Nat × Nat)} {E F : pm_H → Prop} (h1 : xHE xX gA gF E) (h2 : xHE xX gA gF F) : xHE xX gA gF (fun p => E p ∧ F p) := fun p p' hs hp => ⟨h1 p p' hs hp.1, h2 p p' hs hp.2⟩

set_option maxRecDepth 6000 in
theorem xlw_loop {E : pm_H → Prop} {gA : List Nat} {gF : List (Nat × Nat)} (hE : xHE xX gA gF E) (hg : xmemN gA 27 = false) (hl : ∀ k, xmemP gF 27 k = false) {m : Int} {D : Nat} {Q : Option Value → pm_H → Prop} {z s1 w y : Int32} {n : Nat} {l : List Int32} (hn : n ≤ 80) (hll : l.length = 80) (hy : y.toInt = (n : Int)) (hQ : ∀ ph' l' (x : Int32), xH xX kK m 0 ph' → E ph' → xget ph' 170 23 = some (.int y) → pm_at ph' 179 = some (.inl (0, .inl l)) → pm_at ph' 197 = some (.inl (0, .inl l')) → l'.length = 80 → l'.take n = l.take n → xGT kK D 290 Q (71, [some (.ref 170), some (.int z), some (.int s1), some (.int w), some (.int x)], [], ph', 0, 0)) : ∀ (s i : Nat) (x : Int32) (l2 : List Int32) (ph : pm_H), n - i < s → i ≤ n → x.toInt = (i : Int) → xH xX kK m 0 ph → E ph → xget ph 170 23 = some (.int y) → pm_at ph 197 = some (.inl (0, .inl l2)) → l2.length = 80 → pm_at ph 179 = some (.inl (0, .inl l)) → l2.take i = l.take i → xGT kK D 290 Q (42, [some (.ref 170), some (.int z), some (.int s1), some (.int w), some (.int x)], [], ph, 0, 0) := by
  intro s
  induction s with
  | zero => intro i x l2 ph h; omega
  | succ s ih =>
    intro i x l2 ph hs hi hx hP g9 q23 hat hlen hal htk
    by_cases hin : i = n
    · subst hin
      refine gt_load (v := .int x) (n := 2) (ykc_290 (e := (2, .iload 4, 0)) rfl) rfl rfl ?_
      refine gt_load (v := .ref 170) (n := 1) (ykc_290 (e := (2, .aload_n kF0, 0)) rfl) rfl rfl ?_
      refine gt_gfk (v := .int y) (ykc_290 (e := (5, .getfield 248, 0)) rfl) rfl hP q23 rfl ?_
      refine gt_ige_t (ykc_290 (e := (4, .if_icmp .ge 23, 71)) rfl) (by omega) ?_
      exact hQ ph l2 x hP g9 q23 hal hat hlen htk
    · have hi2 : i < n := by omega
      refine gt_load (v := .int x) (n := 2) (ykc_290 (e := (2, .iload 4, 0)) rfl) rfl rfl ?_
      refine gt_load (v := .ref 170) (n := 1) (ykc_290 (e := (2, .aload_n kF0, 0)) rfl) rfl rfl ?_
      refine gt_gfk (v := .int y) (ykc_290 (e := (5, .getfield 248, 0)) rfl) rfl hP q23 rfl ?_
      refine gt_ige_f (ykc_290 (e := (4, .if_icmp .ge 23, 71)) rfl) (by omega) rfl ?_
      refine gt_load (v := .ref 170) (n := 1) (ykc_290 (e := (2, .aload_n kF0, 0)) rfl) rfl rfl ?_
      refine gt_gfr (A := 197) (ykc_290 (e := (5, .getfield 110, 0)) rfl) rfl hP rfl rfl rfl ?_
      refine gt_load (v := .int x) (n := 2) (ykc_290 (e := (2, .iload 4, 0)) rfl) rfl rfl ?_
      refine gt_load (v := .ref 170) (n := 1) (ykc_290 (e := (2, .aload_n kF0, 0)) rfl) rfl rfl ?_
      refine gt_gfr (A := 179) (ykc_290 (e := (5, .getfield 56, 0)) rfl) rfl hP rfl rfl rfl ?_
      refine gt_load (v := .int x) (n := 2) (ykc_290 (e := (2, .iload 4, 0)) rfl) rfl rfl ?_
      refine gt_ial (A := 179) (ykc_290 (e := (5, .iaload, 0)) rfl) hP rfl rfl (by omega) (by omega) rfl (fun e0 g_e0 b_e0 => ?_)
      refine gt_ias (A := 197) (y := e0) (x := x) (ykc_290 (e := (5, .iastore, 0)) rfl) hP rfl rfl (by omega) (by omega) xany rfl (fun ph101 hP101 u101 => ?_)
      have f101_23 : xget ph101 170 23 = some (.int y) := (u101.2.1 170 23 (fun q => absurd q.1 (by decide))).trans q23
      obtain ⟨x1, e_x1, h_x1⟩ : ∃ zq : Int32, x + Int32.ofInt 1 = zq ∧ zq.toInt = x.toInt + 1 := ⟨_, rfl, by rw [ti_add (by rw [xi1]; omega) (by rw [xi1]; omega), xi1]⟩
      refine gt_store (L' := [some (.ref 170), some (.int z), some (.int s1), some (.int w), some (.int x1)]) (st' := []) (n := 3) (ykc_290 (e := (3, .iinc 4 1, 0)) rfl) (by rw [← e_x1]; rfl) rfl ?_
      refine gt_br (pc' := 42) (st' := []) (ykc_290 (e := (4, .goto (-26), 42)) rfl) rfl ?_
      obtain ⟨l3, hat3, hlen3, -⟩ := xA_at (A := 197) hP101 rfl rfl
      have el := xu1_list hat hat3 (by omega) (by omega) u101
      have ek : x.toInt.toNat = i := by omega
      rw [ek] at el
      have ge : l[i]? = some e0 := by
        have g := g_e0
        unfold xget at g
        rw [hal, ek] at g
        have g : (l[i]?).map Value.int = some (.int e0) := g
        obtain ⟨w, w1, w2⟩ := Option.map_eq_some_iff.mp g
        cases w2
        exact w1
      refine ih (i + 1) x1 l3 _ (by omega) (by omega) (by omega) hP101 (xu1_E hE u101 (i := 27) rfl hg (hl _) g9) ((u101.2.1 170 23 (fun q => absurd q.1 (by decide))).trans q23) hat3 (by omega) ((u101.2.2 179 (by decide)).trans hal) ?_
      rw [el, xtake_set (by omega), htk, List.take_succ, ge]
      rfl

set_option maxRecDepth 6000 in
theorem xlw_71 {E : pm_H → Prop} (hE : xHE xX xgA_G101 xgF_LW E) {m : Int} (hm : m ≤ 2147483646) (h0m : (0 : Int) ≤ m) {D' : Nat} (hD : 20 ≤ D') {Q : Option Value → pm_H → Prop} {z s1 w x xc : Int32} {n c : Nat} {lR lW : List Int32} (hQ : ∀ (r : Int32) ph', xH xX kK m 0 ph' → E ph' → xV ph' → Q (some (.int r)) ph') {ph : pm_H} (hP : xH xX kK m 0 ph) (g9 : E ph) (q24 : xget ph 170 24 = some (.int xc)) (ec : xc.toInt = (c : Int)) (hc : c ≤ 40) (hR : pm_at ph 180 = some (.inl (0, .inl lR))) (hlR : lR.length = 80) (hvR : xvc (lR.take c) 0 = true) (hW : pm_at ph 197 = some (.inl (0, .inl lW))) (hlW : lW.length = 80) (hvW : xvc (lW.take n) 0 = true) (hn : n ≤ 80) (hw : w.toInt = (n : Int)) : xGT kK (D' + 1) 290 Q (71, [some (.ref 170), some (.int z), some (.int s1), some (.int w), some (.int x)], [], ph, 0, 0) := by
  have hE7 : xHE xX xgA_G74 xgF_G74 (fun p => E p ∧ pm_at p 197 = some (.inl (0, .inl lW))) := xHE_and (xHE_sub (by decide +kernel) (by decide +kernel) hE) (xHE_at (i := 27) rfl (by decide))
  have hE8 : xHE xX xgA_G8 xgF_G8 (fun p => (E p ∧ pm_at p 197 = some (.inl (0, .inl lW))) ∧ xV p) := xHE_and (xHE_and (xHE_sub (by decide +kernel) (by decide +kernel) hE) (xHE_at (i := 27) rfl (by decide))) (xHE_sub (by decide +kernel) (by decide +kernel) xHEV)
  have hE9 : xHE xX xgA_G74 xgF_G74 E := xHE_sub (by decide +kernel) (by decide +kernel) hE
  have hE10 : xHE xX xgA_G58 xgF_G58 (fun p => E p ∧ xV p) := xHE_and (xHE_sub (by decide +kernel) (by decide +kernel) hE) (xHE_sub (by decide +kernel) (by decide +kernel) xHEV)
  refine gt_load (v := .ref 170) (n := 1) (ykc_290 (e := (2, .aload_n kF0, 0)) rfl) rfl rfl ?_
  refine gt_load (v := .ref 170) (n := 1) (ykc_290 (e := (2, .aload_n kF0, 0)) rfl) rfl rfl ?_
  refine gt_gfr (A := 180) (ykc_290 (e := (5, .getfield 59, 0)) rfl) rfl hP rfl rfl rfl ?_
  refine gt_load (v := .ref 170) (n := 1) (ykc_290 (e := (2, .aload_n kF0, 0)) rfl) rfl rfl ?_
  refine gt_gfk (v := .int xc) (ykc_290 (e := (5, .getfield 227, 0)) rfl) rfl hP q24 rfl ?_
  refine gt_cv (n := 2) (as := [.ref 170, .ref 180, .int xc]) (r := []) (ykc_290 (e := (6, .invokevirtual 254, 0)) rfl) rfl hP rfl rfl rfl (xlaycR (D := D') (n := c) hE7 (by omega) hlR ec hP ⟨g9, hW⟩ hR hvR) rfl (fun vv ph1 hv => ?_)
  obtain ⟨e9, hP1, g1, hV1, -⟩ := hv; subst e9
  change xGT kK (D' + 1) 290 Q (83, [some (.ref 170), some (.int z), some (.int s1), some (.int w), some (.int x)], [], ph1, 0, 0)
  refine gt_load (v := .ref 170) (n := 1) (ykc_290 (e := (2, .aload_n kF0, 0)) rfl) rfl rfl ?_
  refine gt_load (v := .ref 170) (n := 1) (ykc_290 (e := (2, .aload_n kF0, 0)) rfl) rfl rfl ?_
  refine gt_gfr (A := 174) (ykc_290 (e := (5, .getfield 41, 0)) rfl) rfl hP1 rfl rfl rfl ?_
  refine gt_cv (n := 1) (as := [.ref 170, .ref 174]) (r := []) (ykc_290 (e := (6, .invokevirtual 417, 0)) rfl) rfl hP1 rfl rfl rfl (xallseen hE8 (fun p h => h.2) hm h0m (by omega) hP1 ⟨g1, hV1⟩) rfl (fun vv ph2 hv => ?_)
  obtain ⟨s2, e9, hP2, g2⟩ := hv; subst e9
  change xGT kK (D' + 1) 290 Q (91, [some (.ref 170), some (.int z), some (.int s1), some (.int w), some (.int x)], [.long s2], ph2, 0, 0)
  refine gt_cs (n := 1) (as := [.long s2]) (r := []) (ykc_290 (e := (6, .invokestatic 405, 0)) rfl) rfl rfl rfl rfl (xbits (E := fun p => (E p ∧ pm_at p 197 = some (.inl (0, .inl lW))) ∧ xV p) hm h0m (by omega) hP2 g2) rfl (fun vv ph3 hv => ?_)
  obtain ⟨s3, e9, hP3, g3⟩ := hv; subst e9
  change xGT kK (D' + 1) 290 Q (94, [some (.ref 170), some (.int z), some (.int s1), some (.int w), some (.int x)], [.int s3], ph3, 0, 0)
  refine gt_store (L' := [some (.ref 170), some (.int z), some (.int s1), some (.int w), some (.int s3)]) (st' := []) (n := 2) (ykc_290 (e := (3, .istore 4, 0)) rfl) rfl rfl ?_
  refine gt_load (v := .ref 170) (n := 1) (ykc_290 (e := (2, .aload_n kF0, 0)) rfl) rfl rfl ?_
  refine gt_load (v := .ref 170) (n := 1) (ykc_290 (e := (2, .aload_n kF0, 0)) rfl) rfl rfl ?_
  refine gt_gfr (A := 197) (ykc_290 (e := (5, .getfield 110, 0)) rfl) rfl hP3 rfl rfl rfl ?_
  refine gt_load (v := .int w) (n := 1) (ykc_290 (e := (2, .iload_n kF3, 0)) rfl) rfl rfl ?_
  refine gt_cv (n := 2) (as := [.ref 170, .ref 197, .int w]) (r := []) (ykc_290 (e := (6, .invokevirtual 254, 0)) rfl) rfl hP3 rfl rfl rfl (xlaycW (D := D') (n := n) hE9 hn hlW hw hP3 g3.1.1 g3.1.2 hvW) rfl (fun vv ph4 hv => ?_)
  obtain ⟨e9, hP4, g4, hV4, -⟩ := hv; subst e9
  change xGT kK (D' + 1) 290 Q (105, [some (.ref 170), some (.int z), some (.int s1), some (.int w), some (.int s3)], [], ph4, 0, 0)
  refine gt_load (v := .ref 170) (n := 1) (ykc_290 (e := (2, .aload_n kF0, 0)) rfl) rfl rfl ?_
  refine gt_alu (st' := [.int (Int32.ofInt 0), .ref 170]) (ykc_290 (e := (0, .iconst 0, 0)) rfl) rfl rfl ?_
  refine gt_pf (y := Int32.ofInt 0) (ykc_290 (e := (5, .putfield 15, 0)) rfl) rfl hP4 rfl rfl (by decide) (by decide) rfl (fun ph5 hP5 u5 => ?_)
  have g5 : E ph5 ∧ xV ph5 := ⟨xu1_E hE u5 rfl rfl rfl g4, xu1_E xHEV u5 rfl rfl rfl hV4⟩
  have q5 : xiN ph5 1 0 := ⟨_, u5.1, by decide⟩
  refine gt_load (v := .ref 170) (n := 1) (ykc_290 (e := (2, .aload_n kF0, 0)) rfl) rfl rfl ?_
  refine gt_load (v := .int s3) (n := 2) (ykc_290 (e := (2, .iload 4, 0)) rfl) rfl rfl ?_
  refine gt_alu (st' := [.long s3.toInt64, .ref 170]) (ykc_290 (e := (0, .i2l, 0)) rfl) rfl rfl ?_
  refine gt_cv (n := 1) (as := [.ref 170, .long s3.toInt64]) (r := []) (ykc_290 (e := (6, .invokevirtual 373, 0)) rfl) rfl hP5 rfl rfl rfl (xenter hE10 hm h0m (by omega) (k := 0) (by decide) hP5 g5 q5) rfl (fun vv ph6 hv => ?_)
  obtain ⟨e9, hP6, g6, q6⟩ := hv; subst e9
  change xGT kK (D' + 1) 290 Q (117, [some (.ref 170), some (.int z), some (.int s1), some (.int w), some (.int s3)], [], ph6, 0, 0)
  refine gt_load (v := .ref 170) (n := 1) (ykc_290 (e := (2, .aload_n kF0, 0)) rfl) rfl rfl ?_
  refine gt_load (v := .int s1) (n := 1) (ykc_290 (e := (2, .iload_n kF2, 0)) rfl) rfl rfl ?_
  refine gt_alu (st' := [.long s1.toInt64, .ref 170]) (ykc_290 (e := (0, .i2l, 0)) rfl) rfl rfl ?_
  refine gt_cv (n := 1) (as := [.ref 170, .long s1.toInt64]) (r := []) (ykc_290 (e := (6, .invokevirtual 373, 0)) rfl) rfl hP6 rfl rfl rfl (xenter hE10 hm h0m (by omega) (k := 1) (by decide) hP6 g6 q6) rfl (fun vv ph7 hv => ?_)
  obtain ⟨e9, hP7, g7, q7⟩ := hv; subst e9
  change xGT kK (D' + 1) 290 Q (123, [some (.ref 170), some (.int z), some (.int s1), some (.int w), some (.int s3)], [], ph7, 0, 0)
  refine gt_load (v := .int s3) (n := 2) (ykc_290 (e := (2, .iload 4, 0)) rfl) rfl rfl ?_
  refine gt_load (v := .int s1) (n := 1) (ykc_290 (e := (2, .iload_n kF2, 0)) rfl) rfl rfl ?_
  refine gt_alu (st' := [.int (s3 - s1)]) (ykc_290 (e := (0, .isub, 0)) rfl) rfl rfl ?_
  refine gt_ret (ykc_290 (e := (7, .ireturn, 0)) rfl) rfl ?_
  exact hQ _ _ hP7 g7.1 g7.2

set_option maxRecDepth 6000 in
theorem xl27 : ∀ k, xmemP xgF_G8 27 k = false := by
  intro k
  have h : xgF_G8.all (fun p => !(Nat.beq p.1 27)) = true := by decide +kernel
  cases hk : xmemP xgF_G8 27 k with
  | false => rfl
  | true =>
    have h2 := List.all_eq_true.mp h _ (xmemP_in hk)
    have h2 : (!(Nat.beq 27 27)) = true := h2
    exact absurd h2 (by decide)

set_option maxRecDepth 6000 in
theorem xlaw {E : pm_H → Prop} (hE : xHE xX xgA_G101 xgF_G101 E) {m : Int} (hm : m ≤ 2147483646) (h0m : (0 : Int) ≤ m) {D : Nat} (hD : 110 ≤ D) {ph : pm_H} (hP : xH xX kK m 0 ph) (g9 : E ph) (hV : xV ph) : ∃ v ph', pm_Rd kK false D 290 [.ref 170] ph (v, ph', 0, 0) ∧ (∃ r : Int32, v = some (.int r) ∧ xH xX kK m 0 ph' ∧ E ph' ∧ xV ph' ∧ xiN ph' 14 0) := by
  obtain ⟨D', rfl⟩ : ∃ D', D = D' + 1 + 1 := ⟨D - 2, by omega⟩
  have hE1 := hE
  have hE2 : xHE xX xgA_G73 xgF_G73 (fun p => E p ∧ xV p) := xHE_and (xHE_sub (by decide +kernel) (by decide +kernel) hE) (xHE_sub (by decide +kernel) (by decide +kernel) xHEV)
  have hE6 : xHE xX xgA_G101 xgF_LW (fun p => E p ∧ xiN p 14 0) := xHE_and (xHE_sub (by decide +kernel) (by decide +kernel) hE) (xHE_iN (by decide))
  refine xRd_mk (nl := 5) rfl rfl ?_
  show xGT kK (D' + 1) 290 _ (0, [some (.ref 170), none, none, none, none], [], ph, 0, 0)
  refine gt_load (v := .ref 170) (n := 1) (ykc_290 (e := (2, .aload_n kF0, 0)) rfl) rfl rfl ?_
  refine gt_alu (st' := [.int (Int32.ofInt 0), .ref 170]) (ykc_290 (e := (0, .iconst 0, 0)) rfl) rfl rfl ?_
  refine gt_pf (y := Int32.ofInt 0) (ykc_290 (e := (5, .putfield 3, 0)) rfl) rfl hP rfl rfl (by decide) (by decide) rfl (fun ph1 hP1 u1 => ?_)
  have g1 : E ph1 ∧ xV ph1 := ⟨xu1_E hE1 u1 rfl rfl rfl g9, xu1_E xHEV u1 rfl rfl rfl hV⟩
  refine gt_load (v := .ref 170) (n := 1) (ykc_290 (e := (2, .aload_n kF0, 0)) rfl) rfl rfl ?_
  refine gt_cv (n := 0) (as := [.ref 170]) (r := []) (ykc_290 (e := (6, .invokevirtual 251, 0)) rfl) rfl hP1 rfl rfl rfl (xrrule hE2 hm h0m (by omega) hP1 g1) rfl (fun vv ph2 hv => ?_)
  obtain ⟨z1, c, lR, e9, hP2, g2, hz, hc, ⟨xc, qc, ec⟩, ht, hat, hlen, hvc⟩ := hv; subst e9
  change xGT kK (D' + 1) 290 _ (9, [some (.ref 170), none, none, none, none], [.int z1], ph2, 0, 0)
  refine gt_store (L' := [some (.ref 170), some (.int z1), none, none, none]) (st' := []) (n := 1) (ykc_290 (e := (3, .istore_n kF1, 0)) rfl) rfl rfl ?_
  by_cases hq : z1.toInt < 0
  · refine gt_load (v := .int z1) (n := 1) (ykc_290 (e := (2, .iload_n kF1, 0)) rfl) rfl rfl ?_
    refine gt_zge_f (ykc_290 (e := (4, .ifCond .ge 11, 22)) rfl) hq rfl ?_
    refine gt_load (v := .int z1) (n := 1) (ykc_290 (e := (2, .iload_n kF1, 0)) rfl) rfl rfl ?_
    refine gt_alu (st' := [.int (Int32.ofInt 1), .int z1]) (ykc_290 (e := (0, .iconst 1, 0)) rfl) rfl rfl ?_
    refine gt_alu (st' := [.int (z1 + (Int32.ofInt 1))]) (ykc_290 (e := (0, .iadd, 0)) rfl) rfl rfl ?_
    refine gt_push (v := .int ((Int16.ofInt 10000).toInt32)) (n := 3) (ykc_290 (e := (1, .sipush 10000, 0)) rfl) rfl rfl ?_
    refine gt_alu (st' := [.int ((z1 + (Int32.ofInt 1)) - ((Int16.ofInt 10000).toInt32))]) (ykc_290 (e := (0, .isub, 0)) rfl) rfl rfl ?_
    refine gt_ret (ykc_290 (e := (7, .ireturn, 0)) rfl) rfl ?_
    exact ⟨_, rfl, hP2, g2.1, g2.2, ht⟩
  · have hE5 : xHE xX xgA_G8 xgF_G8 (fun p => (E p ∧ xiN p 14 0 ∧ pm_at p 180 = some (.inl (0, .inl lR)) ∧ xget p 170 24 = some (.int xc)) ∧ xV p) := xHE_and (xHE_and (xHE_sub (by decide +kernel) (by decide +kernel) hE) (xHE_and (xHE_iN (by decide)) (xHE_and (xHE_at (i := 10) rfl (by decide)) (xHE_g (by decide))))) (xHE_sub (by decide +kernel) (by decide +kernel) xHEV)
    refine gt_load (v := .int z1) (n := 1) (ykc_290 (e := (2, .iload_n kF1, 0)) rfl) rfl rfl ?_
    refine gt_zge_t (ykc_290 (e := (4, .ifCond .ge 11, 22)) rfl) (by omega) ?_
    refine gt_load (v := .ref 170) (n := 1) (ykc_290 (e := (2, .aload_n kF0, 0)) rfl) rfl rfl ?_
    refine gt_load (v := .ref 170) (n := 1) (ykc_290 (e := (2, .aload_n kF0, 0)) rfl) rfl rfl ?_
    refine gt_gfr (A := 174) (ykc_290 (e := (5, .getfield 41, 0)) rfl) rfl hP2 rfl rfl rfl ?_
    refine gt_cv (n := 1) (as := [.ref 170, .ref 174]) (r := []) (ykc_290 (e := (6, .invokevirtual 417, 0)) rfl) rfl hP2 rfl rfl rfl (xallseen hE5 (fun p h => h.2) hm h0m (by omega) hP2 ⟨⟨g2.1, ht, hat, qc⟩, g2.2⟩) rfl (fun vv ph103 hv => ?_)
    obtain ⟨s1, e9, hP3, g3⟩ := hv; subst e9
    change xGT kK (D' + 1) 290 _ (30, [some (.ref 170), some (.int z1), none, none, none], [.long s1], ph103, 0, 0)
    refine gt_cs (n := 1) (as := [.long s1]) (r := []) (ykc_290 (e := (6, .invokestatic 405, 0)) rfl) rfl rfl rfl rfl (xbits (E := fun p => (E p ∧ xiN p 14 0 ∧ pm_at p 180 = some (.inl (0, .inl lR)) ∧ xget p 170 24 = some (.int xc)) ∧ xV p) hm h0m (by omega) hP3 g3) rfl (fun vv ph104 hv => ?_)
    obtain ⟨s2, e9, hP4, g4⟩ := hv; subst e9
    change xGT kK (D' + 1) 290 _ (33, [some (.ref 170), some (.int z1), none, none, none], [.int s2], ph104, 0, 0)
    refine gt_store (L' := [some (.ref 170), some (.int z1), some (.int s2), none, none]) (st' := []) (n := 1) (ykc_290 (e := (3, .istore_n kF2, 0)) rfl) rfl rfl ?_
    refine gt_load (v := .ref 170) (n := 1) (ykc_290 (e := (2, .aload_n kF0, 0)) rfl) rfl rfl ?_
    refine gt_gfi (ykc_290 (e := (5, .getfield 248, 0)) rfl) rfl hP4 rfl rfl (fun codeLong f_codeLong f0_codeLong f1_codeLong => ?_)
    refine gt_store (L' := [some (.ref 170), some (.int z1), some (.int s2), some (.int codeLong), none]) (st' := []) (n := 1) (ykc_290 (e := (3, .istore_n kF3, 0)) rfl) rfl rfl ?_
    refine gt_alu (st' := [.int (Int32.ofInt 0)]) (ykc_290 (e := (0, .iconst 0, 0)) rfl) rfl rfl ?_
    refine gt_store (L' := [some (.ref 170), some (.int z1), some (.int s2), some (.int codeLong), some (.int (Int32.ofInt 0))]) (st' := []) (n := 2) (ykc_290 (e := (3, .istore 4, 0)) rfl) rfl rfl ?_
    obtain ⟨⟨h1, h2, h3, h4⟩, l0, n0, v1, v2, v3, v4⟩ := id g4
    have ey := xget_int f_codeLong v2
    obtain ⟨lW, hW, hlW, -⟩ := xA_at (A := 197) hP4 rfl rfl
    obtain ⟨l9, hl9, hl9l, -⟩ := xA_at (A := 179) hP4 rfl rfl
    rw [v1] at hl9
    cases hl9
    have hy : codeLong.toInt = (n0 : Int) := by rw [ey, Int32.toInt_ofNat_of_lt (by omega)]
    have hEL : xHE xX xgA_LW xgF_G8 (fun p => (E p ∧ xiN p 14 0) ∧ pm_at p 180 = some (.inl (0, .inl lR)) ∧ xget p 170 24 = some (.int xc)) := xHE_and (xHE_and (xHE_sub (by decide +kernel) (by decide +kernel) hE) (xHE_iN (by decide))) (xHE_and (xHE_at (i := 10) rfl (by decide)) (xHE_g (by decide)))
    exact xlw_loop hEL (by decide) xl27 v3 hl9l hy (fun ph' l' x a1 a2 a3 a4 a5 a6 a7 => xlw_71 hE6 hm h0m (by omega) (fun r p b1 b2 b3 => ⟨r, rfl, b1, b2.1, b3, b2.2⟩) a1 a2.1 a2.2.2 ec hc a2.2.1 hlen (hvc (by omega)) a5 a6 (by rw [a7]; exact v4) v3 hy) (n0 + 1) 0 _ lW _ (by omega) (by omega) (by decide) hP4 ⟨⟨h1, h2⟩, h3, h4⟩ f_codeLong hW hlW v1 (by rw [List.take_zero, List.take_zero])
end
section
/-! undo, again, putsBy of the reference, by hand, printed by wip/x/h_undo.py -/
set_option maxRecDepth 6000 in
theorem x41 : ((Int8.ofInt 41).toInt32).toInt = 41 := by decide
set_option maxRecDepth 6000 in
theorem xmod_eq {m : Int} {w p a b : Nat} {v : Int} {sg : List (Nat × xe)} (h : xeG m w v (xat sg (a % p))) (e : a % p = b % p) : xeG m w v (xat sg (b % p)) := e ▸ h
def xgA_VR : List Nat := [9, 6, 3, 23, 24, 45, 49, 50, 54, 47, 62, 65, 66, 33, 34, 35, 36, 37, 39, 40, 41, 42, 43, 105, 106, 107, 108, 109, 111, 112, 113, 114, 115, 117, 118, 119, 120, 121, 78, 83, 59, 60, 51, 52, 7]
def xgF_VR : List (Nat × Nat) := (0, 14) :: [(0, 23), (44, 1), (0, 8), (31, 13), (31, 14), (32, 0), (32, 1), (32, 2), (32, 3), (32, 4), (32, 5), (32, 6), (32, 7), (38, 0), (38, 1), (38, 2), (38, 3), (38, 4), (38, 5), (38, 6), (38, 7), (46, 1), (48, 0), (48, 1), (48, 2), (48, 3), (48, 4), (53, 4), (58, 0), (58, 1), (58, 2), (58, 3), (58, 4), (61, 2), (64, 2), (77, 1), (77, 3), (77, 5), (77, 6), (77, 7), (82, 1), (82, 3), (82, 5), (82, 6), (82, 7), (104, 0), (104, 1), (104, 2), (104, 3), (104, 4), (104, 5), (104, 6), (104, 7), (110, 0), (110, 1), (110, 2), (110, 3), (110, 4), (110, 5), (110, 6), (110, 7), (116, 0), (116, 1), (116, 2), (116, 3), (116, 4), (116, 5), (116, 6), (116, 7), (53, 1), (53, 2), (63, 2), (63, 3), (0, 3), (0, 4), (0, 5), (0, 6), (0, 39)]
set_option maxRecDepth 6000 in
theorem xHEVR : xHE xX xgA_VR xgF_VR xV := xHE_sub (by decide +kernel) (by decide +kernel) xHEV
set_option maxRecDepth 6000 in
theorem xINV_27 {n : Nat} {ph ph' : pm_H} {y : Int32} (h : xINV n ph) (u : xu1 ph ph' 170 27 (.int y)) (hy : ∀ U : Int32, xget ph 170 27 = some (.int U) → ∀ k : Nat, (k : Int) < y.toInt → (k : Int) < U.toInt) : xINV n ph' := by
  obtain ⟨W, P, T, U, C, ⟨f1, f2, f3, f4, f5⟩, ⟨b1, b2, b3, b4⟩, g1, g2, g3⟩ := h
  have hf : ∀ k, k ≠ 27 → xget ph' 170 k = xget ph 170 k := fun k hk => u.2.1 170 k (fun q => hk q.2)
  have ha : ∀ a, a ≠ 170 → pm_at ph' a = pm_at ph a := u.2.2
  refine ⟨W, P, T, y, C, ⟨(hf 4 (by decide)).trans f1, (hf 5 (by decide)).trans f2, (hf 6 (by decide)).trans f3, u.1, (hf 7 (by decide)).trans f5⟩, ⟨b1, b2, b3, b4⟩, xgr_eq b1 b2 (fun k _ => xget_at (ha 174 (by decide)) _) g1, fun k hk => xgr_eq b1 b2 (fun c _ => xget_at (ha 183 (by decide)) _) (g2 k (hy U f4 k hk)), fun i hi z hz hz0 => ?_⟩
  obtain ⟨K, k1, k2, k3⟩ := g3 i hi z (xgb_eq (ha 198 (by decide)) hz) hz0
  exact ⟨K, (xget_at (ha 199 (by decide)) i).trans k1, k2, fun e => xgr_eq b1 b2 (fun c _ => xget_at (ha 200 (by decide)) _) (k3 e)⟩
def xrowG (ph : pm_H) (a off : Nat) : Prop := ∀ W P T : Int32, xget ph 170 4 = some (.int W) → xget ph 170 5 = some (.int P) → xget ph 170 6 = some (.int T) → P.toInt ≤ 8 → T.toInt ≤ 8 → xgr ph W P T a off
set_option maxRecDepth 6000 in
theorem xINV_now {n sA sO : Nat} {ph ph' : pm_H} (h : xINV n ph) (c : xcp ph ph' 174 0 sA sO 41) (hg : xrowG ph sA sO) : xINV n ph' := by
  obtain ⟨W, P, T, U, C, ⟨f1, f2, f3, f4, f5⟩, ⟨b1, b2, b3, b4⟩, g1, g2, g3⟩ := h
  have hf : ∀ k, xget ph' 170 k = xget ph 170 k := fun k => c.2.1 170 k (fun q => absurd q.1 (by decide))
  have ha : ∀ a, a ≠ 174 → pm_at ph' a = pm_at ph a := c.2.2
  refine ⟨W, P, T, U, C, ⟨(hf 4).trans f1, (hf 5).trans f2, (hf 6).trans f3, (hf 27).trans f4, (hf 7).trans f5⟩, ⟨b1, b2, b3, b4⟩, xgr_cp b1 b2 c.1 (hg W P T f1 f2 f3 b1 b2), fun k hk => xgr_eq b1 b2 (fun c _ => xget_at (ha 183 (by decide)) _) (g2 k hk), fun i hi z hz hz0 => ?_⟩
  obtain ⟨K, k1, k2, k3⟩ := g3 i hi z (xgb_eq (ha 198 (by decide)) hz) hz0
  exact ⟨K, (xget_at (ha 199 (by decide)) i).trans k1, k2, fun e => xgr_eq b1 b2 (fun c _ => xget_at (ha 200 (by decide)) _) (k3 e)⟩
set_option maxRecDepth 6000 in
theorem xINV_row {n u : Nat} {ph : pm_H} {U : Int32} (h : xINV n ph) (q : xget ph 170 27 = some (.int U)) (hu : (u : Int) < U.toInt) : xrowG ph 183 (41 * u) := by
  obtain ⟨W, P, T, U2, C, ⟨f1, f2, f3, f4, f5⟩, -, -, g2, -⟩ := h
  intro W2 P2 T2 h1 h2 h3 _ _
  have e1 := xget_int f1 h1
  have e2 := xget_int f2 h2
  have e3 := xget_int f3 h3
  have e4 := xget_int f4 q
  subst e1 e2 e3 e4
  exact g2 u hu
set_option maxRecDepth 6000 in
theorem xINV_kept {n i : Nat} {ph : pm_H} {y K C : Int32} (h : xINV n ph) (hi : i < 3) (hy : xgb ph 198 i y) (hy0 : y.toInt ≠ 0) (hK : xget ph 199 i = some (.int K)) (hC : xget ph 170 7 = some (.int C)) (e : K.toInt = C.toInt) : xrowG ph 200 (41 * i) := by
  obtain ⟨W, P, T, U, C2, ⟨f1, f2, f3, f4, f5⟩, -, -, -, g3⟩ := h
  intro W2 P2 T2 h1 h2 h3 _ _
  have e1 := xget_int f1 h1
  have e2 := xget_int f2 h2
  have e3 := xget_int f3 h3
  have e4 := xget_int f5 hC
  subst e1 e2 e3 e4
  obtain ⟨K2, k1, -, k3⟩ := g3 i hi y hy hy0
  have e5 := xget_int k1 hK
  subst e5
  exact k3 e
set_option maxRecDepth 6000 in
theorem xrowG_eq {ph ph' : pm_H} {a off : Nat} (ha : ∀ c, xget ph' a c = xget ph a c) (hf : ∀ k, k < 7 → xget ph' 170 k = xget ph 170 k) (g : xrowG ph a off) : xrowG ph' a off := fun W P T h1 h2 h3 b1 b2 => xgr_eq b1 b2 (fun _ _ => ha _) (g W P T ((hf 4 (by decide)).symm.trans h1) ((hf 5 (by decide)).symm.trans h2) ((hf 6 (by decide)).symm.trans h3) b1 b2)

set_option maxRecDepth 6000 in
theorem xcl_undo {E : pm_H → Prop} {gA : List Nat} {gF : List (Nat × Nat)} (hE : xHE xX gA gF E) (hgA : xmemN gA 4 = false) (hgF : ∀ k, xmemP gF 4 k = false) {m : Int} {w D : Nat} {Q : Option Value → pm_H → Prop} {y : Int32} {u : Nat} (hu : u ≤ 15) (hy : y.toInt = (u : Int)) {ph0 : pm_H} (q27 : xget ph0 170 27 = some (.int y)) (hQ : ∀ (ph' : pm_H) (x : Int32), xH xX kK m w ph' → E ph' → xcp ph0 ph' 174 0 183 (41 * u) 41 → xGT kK D 241 Q (58, [some (.ref 170), some (.int x)], [], ph', 0, 0)) : ∀ (s i : Nat) (x : Int32) (ph : pm_H), 41 - i < s → i ≤ 41 → x.toInt = (i : Int) → xH xX kK m w ph → E ph → xcp ph0 ph 174 0 183 (41 * u) i → xGT kK D 241 Q (26, [some (.ref 170), some (.int x)], [], ph, 0, 0) := by
  intro s
  induction s with
  | zero => intro i x ph h; omega
  | succ s ih =>
    intro i x ph hs hi hx hP g9 hc
    have qk : xget ph 170 27 = some (.int y) := (hc.2.1 170 27 (fun q => absurd q.1 (by decide))).trans q27
    by_cases hin : i = 41
    · subst hin
      refine gt_load (v := .int x) (n := 1) (ykc_241 (e := (2, .iload_n kF1, 0)) rfl) rfl rfl ?_
      refine gt_push (v := .int ((Int8.ofInt 41).toInt32)) (n := 2) (ykc_241 (e := (1, .bipush 41, 0)) rfl) rfl rfl ?_
      refine gt_ige_t (ykc_241 (e := (4, .if_icmp .ge 29, 58)) rfl) (by rw [x41]; omega) ?_
      exact hQ ph x hP g9 hc
    · have hi2 : i < 41 := by omega
      refine gt_load (v := .int x) (n := 1) (ykc_241 (e := (2, .iload_n kF1, 0)) rfl) rfl rfl ?_
      refine gt_push (v := .int ((Int8.ofInt 41).toInt32)) (n := 2) (ykc_241 (e := (1, .bipush 41, 0)) rfl) rfl rfl ?_
      refine gt_ige_f (ykc_241 (e := (4, .if_icmp .ge 29, 58)) rfl) (by rw [x41]; omega) rfl ?_
      refine gt_load (v := .ref 170) (n := 1) (ykc_241 (e := (2, .aload_n kF0, 0)) rfl) rfl rfl ?_
      refine gt_gfr (A := 174) (ykc_241 (e := (5, .getfield 41, 0)) rfl) rfl hP rfl rfl rfl ?_
      refine gt_load (v := .int x) (n := 1) (ykc_241 (e := (2, .iload_n kF1, 0)) rfl) rfl rfl ?_
      refine gt_load (v := .ref 170) (n := 1) (ykc_241 (e := (2, .aload_n kF0, 0)) rfl) rfl rfl ?_
      refine gt_gfr (A := 183) (ykc_241 (e := (5, .getfield 68, 0)) rfl) rfl hP rfl rfl rfl ?_
      refine gt_push (v := .int ((Int8.ofInt 41).toInt32)) (n := 2) (ykc_241 (e := (1, .bipush 41, 0)) rfl) rfl rfl ?_
      refine gt_load (v := .ref 170) (n := 1) (ykc_241 (e := (2, .aload_n kF0, 0)) rfl) rfl rfl ?_
      refine gt_gfk (v := .int y) (ykc_241 (e := (5, .getfield 188, 0)) rfl) rfl hP qk rfl ?_
      obtain ⟨y1, e_y1, h_y1⟩ : ∃ zq : Int32, ((Int8.ofInt 41).toInt32) * y = zq ∧ zq.toInt = 41 * y.toInt := ⟨_, rfl, by rw [ti_mul (by rw [x41]; omega) (by rw [x41]; omega), x41]⟩
      refine gt_alu (st' := [.int y1, .ref 183, .int x, .ref 174]) (ykc_241 (e := (0, .imul, 0)) rfl) (by rw [← e_y1]; exact rfl) rfl ?_
      refine gt_load (v := .int x) (n := 1) (ykc_241 (e := (2, .iload_n kF1, 0)) rfl) rfl rfl ?_
      obtain ⟨y2, e_y2, h_y2⟩ : ∃ zq : Int32, y1 + x = zq ∧ zq.toInt = 41 * y.toInt + x.toInt := ⟨_, rfl, by rw [ti_add (by rw [h_y1]; omega) (by rw [h_y1]; omega), h_y1]⟩
      refine gt_alu (st' := [.int y2, .ref 183, .int x, .ref 174]) (ykc_241 (e := (0, .iadd, 0)) rfl) (by rw [← e_y2]; exact rfl) rfl ?_
      refine gt_ial (A := 183) (ykc_241 (e := (5, .iaload, 0)) rfl) hP rfl rfl (by omega) (by omega) rfl (fun e0 g_e0 b_e0 => ?_)
      refine gt_ias (A := 174) (y := e0) (x := x) (ykc_241 (e := (5, .iastore, 0)) rfl) hP rfl rfl (by omega) (by omega) (xmod_eq b_e0 (by omega)) rfl (fun ph101 hP101 u101 => ?_)
      have f101_27 : xget ph101 170 27 = some (.int y) := (u101.2.1 170 27 (fun q => absurd q.1 (by decide))).trans qk
      obtain ⟨x1, e_x1, h_x1⟩ : ∃ zq : Int32, x + Int32.ofInt 1 = zq ∧ zq.toInt = x.toInt + 1 := ⟨_, rfl, by rw [ti_add (by rw [xi1]; omega) (by rw [xi1]; omega), xi1]⟩
      refine gt_store (L' := [some (.ref 170), some (.int x1)]) (st' := []) (n := 3) (ykc_241 (e := (3, .iinc 1 1, 0)) rfl) (by rw [← e_x1]; rfl) rfl ?_
      refine gt_br (pc' := 26) (st' := []) (ykc_241 (e := (4, .goto (-29), 26)) rfl) rfl ?_
      have es : y2.toInt.toNat = (41 * u) + i := by omega
      have ed : x.toInt.toNat = 0 + i := by omega
      have w1 : xget ph 183 ((41 * u) + i) = some (.int e0) := by rw [← es]; exact g_e0
      have w2 := u101
      rw [ed] at w2
      exact ih (i + 1) x1 _ (by omega) (by omega) (by omega) hP101 (xu1_E hE w2 (i := 4) rfl hgA (hgF _) g9) (xcp_s hc (by decide) w1 w2)

set_option maxRecDepth 6000 in
theorem xcl_again {E : pm_H → Prop} {gA : List Nat} {gF : List (Nat × Nat)} (hE : xHE xX gA gF E) (hgA : xmemN gA 4 = false) (hgF : ∀ k, xmemP gF 4 k = false) {m : Int} {w D : Nat} {Q : Option Value → pm_H → Prop} {y : Int32} {u : Nat} (hu : u ≤ 2) (hy : y.toInt = (u : Int)) {ph0 : pm_H} (hQ : ∀ (ph' : pm_H) (x : Int32), xH xX kK m w ph' → E ph' → xcp ph0 ph' 174 0 200 (41 * u) 41 → xGT kK D 297 Q (72, [some (.ref 170), some (.int y), some (.int x)], [], ph', 0, 0)) : ∀ (s i : Nat) (x : Int32) (ph : pm_H), 41 - i < s → i ≤ 41 → x.toInt = (i : Int) → xH xX kK m w ph → E ph → xcp ph0 ph 174 0 200 (41 * u) i → xGT kK D 297 Q (43, [some (.ref 170), some (.int y), some (.int x)], [], ph, 0, 0) := by
  intro s
  induction s with
  | zero => intro i x ph h; omega
  | succ s ih =>
    intro i x ph hs hi hx hP g9 hc
    by_cases hin : i = 41
    · subst hin
      refine gt_load (v := .int x) (n := 1) (ykc_297 (e := (2, .iload_n kF2, 0)) rfl) rfl rfl ?_
      refine gt_push (v := .int ((Int8.ofInt 41).toInt32)) (n := 2) (ykc_297 (e := (1, .bipush 41, 0)) rfl) rfl rfl ?_
      refine gt_ige_t (ykc_297 (e := (4, .if_icmp .ge 26, 72)) rfl) (by rw [x41]; omega) ?_
      exact hQ ph x hP g9 hc
    · have hi2 : i < 41 := by omega
      refine gt_load (v := .int x) (n := 1) (ykc_297 (e := (2, .iload_n kF2, 0)) rfl) rfl rfl ?_
      refine gt_push (v := .int ((Int8.ofInt 41).toInt32)) (n := 2) (ykc_297 (e := (1, .bipush 41, 0)) rfl) rfl rfl ?_
      refine gt_ige_f (ykc_297 (e := (4, .if_icmp .ge 26, 72)) rfl) (by rw [x41]; omega) rfl ?_
      refine gt_load (v := .ref 170) (n := 1) (ykc_297 (e := (2, .aload_n kF0, 0)) rfl) rfl rfl ?_
      refine gt_gfr (A := 174) (ykc_297 (e := (5, .getfield 41, 0)) rfl) rfl hP rfl rfl rfl ?_
      refine gt_load (v := .int x) (n := 1) (ykc_297 (e := (2, .iload_n kF2, 0)) rfl) rfl rfl ?_
      refine gt_load (v := .ref 170) (n := 1) (ykc_297 (e := (2, .aload_n kF0, 0)) rfl) rfl rfl ?_
      refine gt_gfr (A := 200) (ykc_297 (e := (5, .getfield 119, 0)) rfl) rfl hP rfl rfl rfl ?_
      refine gt_push (v := .int ((Int8.ofInt 41).toInt32)) (n := 2) (ykc_297 (e := (1, .bipush 41, 0)) rfl) rfl rfl ?_
      refine gt_load (v := .int y) (n := 1) (ykc_297 (e := (2, .iload_n kF1, 0)) rfl) rfl rfl ?_
      obtain ⟨y1, e_y1, h_y1⟩ : ∃ zq : Int32, ((Int8.ofInt 41).toInt32) * y = zq ∧ zq.toInt = 41 * y.toInt := ⟨_, rfl, by rw [ti_mul (by rw [x41]; omega) (by rw [x41]; omega), x41]⟩
      refine gt_alu (st' := [.int y1, .ref 200, .int x, .ref 174]) (ykc_297 (e := (0, .imul, 0)) rfl) (by rw [← e_y1]; exact rfl) rfl ?_
      refine gt_load (v := .int x) (n := 1) (ykc_297 (e := (2, .iload_n kF2, 0)) rfl) rfl rfl ?_
      obtain ⟨y2, e_y2, h_y2⟩ : ∃ zq : Int32, y1 + x = zq ∧ zq.toInt = 41 * y.toInt + x.toInt := ⟨_, rfl, by rw [ti_add (by rw [h_y1]; omega) (by rw [h_y1]; omega), h_y1]⟩
      refine gt_alu (st' := [.int y2, .ref 200, .int x, .ref 174]) (ykc_297 (e := (0, .iadd, 0)) rfl) (by rw [← e_y2]; exact rfl) rfl ?_
      refine gt_ial (A := 200) (ykc_297 (e := (5, .iaload, 0)) rfl) hP rfl rfl (by omega) (by omega) rfl (fun e0 g_e0 b_e0 => ?_)
      refine gt_ias (A := 174) (y := e0) (x := x) (ykc_297 (e := (5, .iastore, 0)) rfl) hP rfl rfl (by omega) (by omega) (xmod_eq b_e0 (by omega)) rfl (fun ph101 hP101 u101 => ?_)
      obtain ⟨x1, e_x1, h_x1⟩ : ∃ zq : Int32, x + Int32.ofInt 1 = zq ∧ zq.toInt = x.toInt + 1 := ⟨_, rfl, by rw [ti_add (by rw [xi1]; omega) (by rw [xi1]; omega), xi1]⟩
      refine gt_store (L' := [some (.ref 170), some (.int y), some (.int x1)]) (st' := []) (n := 3) (ykc_297 (e := (3, .iinc 2 1, 0)) rfl) (by rw [← e_x1]; rfl) rfl ?_
      refine gt_br (pc' := 43) (st' := []) (ykc_297 (e := (4, .goto (-26), 43)) rfl) rfl ?_
      have es : y2.toInt.toNat = (41 * u) + i := by omega
      have ed : x.toInt.toNat = 0 + i := by omega
      have w1 : xget ph 200 ((41 * u) + i) = some (.int e0) := by rw [← es]; exact g_e0
      have w2 := u101
      rw [ed] at w2
      exact ih (i + 1) x1 _ (by omega) (by omega) (by omega) hP101 (xu1_E hE w2 (i := 4) rfl hgA (hgF _) g9) (xcp_s hc (by decide) w1 w2)

set_option maxRecDepth 6000 in
theorem xcl_puts {E : pm_H → Prop} {gA : List Nat} {gF : List (Nat × Nat)} (hE : xHE xX gA gF E) (hgA : xmemN gA 13 = false) (hgF : ∀ k, xmemP gF 13 k = false) {m : Int} {w D : Nat} {Q : Option Value → pm_H → Prop} {y : Int32} {u : Nat} (hu : u ≤ 15) (hy : y.toInt = (u : Int)) {ph0 : pm_H} (q27 : xget ph0 170 27 = some (.int y)) (hQ : ∀ (ph' : pm_H) (x : Int32), xH xX kK m w ph' → E ph' → xcp ph0 ph' 183 (41 * u) 174 0 41 → xGT kK D 238 Q (34, [some (.ref 170), some (.int x)], [], ph', 0, 0)) : ∀ (s i : Nat) (x : Int32) (ph : pm_H), 41 - i < s → i ≤ 41 → x.toInt = (i : Int) → xH xX kK m w ph → E ph → xcp ph0 ph 183 (41 * u) 174 0 i → xGT kK D 238 Q (2, [some (.ref 170), some (.int x)], [], ph, 0, 0) := by
  intro s
  induction s with
  | zero => intro i x ph h; omega
  | succ s ih =>
    intro i x ph hs hi hx hP g9 hc
    have qk : xget ph 170 27 = some (.int y) := (hc.2.1 170 27 (fun q => absurd q.1 (by decide))).trans q27
    by_cases hin : i = 41
    · subst hin
      refine gt_load (v := .int x) (n := 1) (ykc_238 (e := (2, .iload_n kF1, 0)) rfl) rfl rfl ?_
      refine gt_push (v := .int ((Int8.ofInt 41).toInt32)) (n := 2) (ykc_238 (e := (1, .bipush 41, 0)) rfl) rfl rfl ?_
      refine gt_ige_t (ykc_238 (e := (4, .if_icmp .ge 29, 34)) rfl) (by rw [x41]; omega) ?_
      exact hQ ph x hP g9 hc
    · have hi2 : i < 41 := by omega
      refine gt_load (v := .int x) (n := 1) (ykc_238 (e := (2, .iload_n kF1, 0)) rfl) rfl rfl ?_
      refine gt_push (v := .int ((Int8.ofInt 41).toInt32)) (n := 2) (ykc_238 (e := (1, .bipush 41, 0)) rfl) rfl rfl ?_
      refine gt_ige_f (ykc_238 (e := (4, .if_icmp .ge 29, 34)) rfl) (by rw [x41]; omega) rfl ?_
      refine gt_load (v := .ref 170) (n := 1) (ykc_238 (e := (2, .aload_n kF0, 0)) rfl) rfl rfl ?_
      refine gt_gfr (A := 183) (ykc_238 (e := (5, .getfield 68, 0)) rfl) rfl hP rfl rfl rfl ?_
      refine gt_push (v := .int ((Int8.ofInt 41).toInt32)) (n := 2) (ykc_238 (e := (1, .bipush 41, 0)) rfl) rfl rfl ?_
      refine gt_load (v := .ref 170) (n := 1) (ykc_238 (e := (2, .aload_n kF0, 0)) rfl) rfl rfl ?_
      refine gt_gfk (v := .int y) (ykc_238 (e := (5, .getfield 188, 0)) rfl) rfl hP qk rfl ?_
      obtain ⟨y1, e_y1, h_y1⟩ : ∃ zq : Int32, ((Int8.ofInt 41).toInt32) * y = zq ∧ zq.toInt = 41 * y.toInt := ⟨_, rfl, by rw [ti_mul (by rw [x41]; omega) (by rw [x41]; omega), x41]⟩
      refine gt_alu (st' := [.int y1, .ref 183]) (ykc_238 (e := (0, .imul, 0)) rfl) (by rw [← e_y1]; exact rfl) rfl ?_
      refine gt_load (v := .int x) (n := 1) (ykc_238 (e := (2, .iload_n kF1, 0)) rfl) rfl rfl ?_
      obtain ⟨y2, e_y2, h_y2⟩ : ∃ zq : Int32, y1 + x = zq ∧ zq.toInt = 41 * y.toInt + x.toInt := ⟨_, rfl, by rw [ti_add (by rw [h_y1]; omega) (by rw [h_y1]; omega), h_y1]⟩
      refine gt_alu (st' := [.int y2, .ref 183]) (ykc_238 (e := (0, .iadd, 0)) rfl) (by rw [← e_y2]; exact rfl) rfl ?_
      refine gt_load (v := .ref 170) (n := 1) (ykc_238 (e := (2, .aload_n kF0, 0)) rfl) rfl rfl ?_
      refine gt_gfr (A := 174) (ykc_238 (e := (5, .getfield 41, 0)) rfl) rfl hP rfl rfl rfl ?_
      refine gt_load (v := .int x) (n := 1) (ykc_238 (e := (2, .iload_n kF1, 0)) rfl) rfl rfl ?_
      refine gt_ial (A := 174) (ykc_238 (e := (5, .iaload, 0)) rfl) hP rfl rfl (by omega) (by omega) rfl (fun e0 g_e0 b_e0 => ?_)
      refine gt_ias (A := 183) (y := e0) (x := y2) (ykc_238 (e := (5, .iastore, 0)) rfl) hP rfl rfl (by omega) (by omega) (xmod_eq b_e0 (by omega)) rfl (fun ph101 hP101 u101 => ?_)
      have f101_27 : xget ph101 170 27 = some (.int y) := (u101.2.1 170 27 (fun q => absurd q.1 (by decide))).trans qk
      obtain ⟨x1, e_x1, h_x1⟩ : ∃ zq : Int32, x + Int32.ofInt 1 = zq ∧ zq.toInt = x.toInt + 1 := ⟨_, rfl, by rw [ti_add (by rw [xi1]; omega) (by rw [xi1]; omega), xi1]⟩
      refine gt_store (L' := [some (.ref 170), some (.int x1)]) (st' := []) (n := 3) (ykc_238 (e := (3, .iinc 1 1, 0)) rfl) (by rw [← e_x1]; rfl) rfl ?_
      refine gt_br (pc' := 2) (st' := []) (ykc_238 (e := (4, .goto (-29), 2)) rfl) rfl ?_
      have es : x.toInt.toNat = 0 + i := by omega
      have ed : y2.toInt.toNat = (41 * u) + i := by omega
      have w1 : xget ph 174 (0 + i) = some (.int e0) := by rw [← es]; exact g_e0
      have w2 := u101
      rw [ed] at w2
      exact ih (i + 1) x1 _ (by omega) (by omega) (by omega) hP101 (xu1_E hE w2 (i := 13) rfl hgA (hgF _) g9) (xcp_s hc (by decide) w1 w2)

set_option maxRecDepth 6000 in
theorem xundo {R : pm_H → Prop} (hR : xHE xX xgA_VR xgF_VR R) {m : Int} (hm : m ≤ 2147483646) (h0m : (0 : Int) ≤ m) {D n : Nat} {ph : pm_H} (hP : xH xX kK m 0 ph) (hV : xV ph) (hI : xINV n ph) (hr : R ph) : ∃ v ph', pm_Rd kK false (D + 1) 241 [.ref 170] ph (v, ph', 0, 0) ∧ (∃ r : Int32, v = some (.int r) ∧ xH xX kK m 0 ph' ∧ xV ph' ∧ xINV n ph' ∧ R ph') := by
  have hE : xHE xX xgA_VR xgF_VR (fun p => xV p ∧ R p) := xHE_and xHEVR hR
  refine xRd_mk (nl := 2) rfl rfl ?_
  show xGT kK D 241 _ (0, [some (.ref 170), none], [], ph, 0, 0)
  refine gt_load (v := .ref 170) (n := 1) (ykc_241 (e := (2, .aload_n kF0, 0)) rfl) rfl rfl ?_
  refine gt_alu (st' := [.int (Int32.ofInt 0), .ref 170]) (ykc_241 (e := (0, .iconst 0, 0)) rfl) rfl rfl ?_
  refine gt_pf (y := Int32.ofInt 0) (ykc_241 (e := (5, .putfield 3, 0)) rfl) rfl hP rfl rfl (by decide) (by decide) rfl (fun ph1 hP1 u1 => ?_)
  refine gt_load (v := .ref 170) (n := 1) (ykc_241 (e := (2, .aload_n kF0, 0)) rfl) rfl rfl ?_
  refine gt_gfi (ykc_241 (e := (5, .getfield 188, 0)) rfl) rfl hP1 rfl rfl (fun undos f_undos f0_undos f1_undos => ?_)
  have g1 : xV ph1 ∧ R ph1 := xu1_E hE u1 rfl rfl rfl ⟨hV, hr⟩
  have i1 : xINV n ph1 := xu1_E (xHEI n) u1 rfl rfl rfl hI
  have hu0 : 0 ≤ undos.toInt := f0_undos
  have hu1 : undos.toInt ≤ 15 := f1_undos
  by_cases hz : undos.toInt = 0
  · refine gt_zne_f (ykc_241 (e := (4, .ifCond .ne 5, 14)) rfl) hz rfl ?_
    refine gt_alu (st' := [.int (Int32.ofInt (-1))]) (ykc_241 (e := (0, .iconst (-1), 0)) rfl) rfl rfl ?_
    refine gt_ret (ykc_241 (e := (7, .ireturn, 0)) rfl) rfl ?_
    exact ⟨_, rfl, hP1, g1.1, i1, g1.2⟩
  · refine gt_zne_t (ykc_241 (e := (4, .ifCond .ne 5, 14)) rfl) hz ?_
    refine gt_load (v := .ref 170) (n := 1) (ykc_241 (e := (2, .aload_n kF0, 0)) rfl) rfl rfl ?_
    refine gt_alu (st' := [.ref 170, .ref 170]) (ykc_241 (e := (0, .dup, 0)) rfl) rfl rfl ?_
    refine gt_gfk (v := .int undos) (ykc_241 (e := (5, .getfield 188, 0)) rfl) rfl hP1 f_undos rfl ?_
    refine gt_alu (st' := [.int (Int32.ofInt 1), .int undos, .ref 170]) (ykc_241 (e := (0, .iconst 1, 0)) rfl) rfl rfl ?_
    obtain ⟨y1, e_y1, h_y1⟩ : ∃ zq : Int32, undos - (Int32.ofInt 1) = zq ∧ zq.toInt = undos.toInt - 1 := ⟨_, rfl, by rw [ti_sub (by rw [xi1]; omega) (by rw [xi1]; omega), xi1]⟩
    refine gt_alu (st' := [.int y1, .ref 170]) (ykc_241 (e := (0, .isub, 0)) rfl) (by rw [← e_y1]; exact rfl) rfl ?_
    refine gt_pf (y := y1) (ykc_241 (e := (5, .putfield 188, 0)) rfl) rfl hP1 rfl rfl (by show 0 ≤ y1.toInt; omega) (by show y1.toInt ≤ 15; omega) rfl (fun ph102 hP102 u102 => ?_)
    have f102_0 : xget ph102 170 0 = some (.int (Int32.ofInt 0)) := (u102.2.1 170 0 (by decide)).trans u1.1
    refine gt_alu (st' := [.int (Int32.ofInt 0)]) (ykc_241 (e := (0, .iconst 0, 0)) rfl) rfl rfl ?_
    refine gt_store (L' := [some (.ref 170), some (.int (Int32.ofInt 0))]) (st' := []) (n := 1) (ykc_241 (e := (3, .istore_n kF1, 0)) rfl) rfl rfl ?_
    have g2 : xV ph102 ∧ R ph102 := xu1_E hE u102 rfl rfl rfl g1
    have i2 : xINV n ph102 := xINV_27 i1 u102 (fun U q k hk => by
      have e := xget_int q f_undos
      subst e
      omega)
    have r2 : xrowG ph102 183 (41 * y1.toInt.toNat) := xrowG_eq (fun c => u102.2.1 183 c (fun q => absurd q.1 (by decide))) (fun k hk => u102.2.1 170 k (fun q => by omega)) (xINV_row i1 f_undos (by omega))
    refine xcl_undo hE rfl (fun _ => rfl) (u := y1.toInt.toNat) (by omega) (by omega) u102.1 (fun ph' x a1 a2 a3 => ?_) 42 0 _ _ (by omega) (by omega) (by decide) hP102 g2 xcp_0
    have qk : xget ph' 170 27 = some (.int y1) := (a3.2.1 170 27 (fun q => absurd q.1 (by decide))).trans u102.1
    refine gt_load (v := .ref 170) (n := 1) (ykc_241 (e := (2, .aload_n kF0, 0)) rfl) rfl rfl ?_
    refine gt_gfk (v := .int y1) (ykc_241 (e := (5, .getfield 188, 0)) rfl) rfl a1 qk rfl ?_
    refine gt_ret (ykc_241 (e := (7, .ireturn, 0)) rfl) rfl ?_
    exact ⟨y1, rfl, a1, a2.1, xINV_now i2 a3 r2, a2.2⟩

set_option maxRecDepth 6000 in
theorem xputsBy {E : pm_H → Prop} {gA : List Nat} {gF : List (Nat × Nat)} (hE : xHE xX gA gF E) (hgA : xmemN gA 13 = false) (hgF : ∀ k, xmemP gF 13 k = false) {m : Int} {w D u : Nat} {y : Int32} (hu : u ≤ 15) (hy : y.toInt = (u : Int)) {ph : pm_H} (q27 : xget ph 170 27 = some (.int y)) (hP : xH xX kK m w ph) (g9 : E ph) : ∃ v ph', pm_Rd kK false (D + 1) 238 [.ref 170] ph (v, ph', 0, 0) ∧ (v = none ∧ xH xX kK m w ph' ∧ E ph' ∧ xcp ph ph' 183 (41 * u) 174 0 41) := by
  refine xRd_mk (nl := 2) rfl rfl ?_
  show xGT kK D 238 _ (0, [some (.ref 170), none], [], ph, 0, 0)
  refine gt_alu (st' := [.int (Int32.ofInt 0)]) (ykc_238 (e := (0, .iconst 0, 0)) rfl) rfl rfl ?_
  refine gt_store (L' := [some (.ref 170), some (.int (Int32.ofInt 0))]) (st' := []) (n := 1) (ykc_238 (e := (3, .istore_n kF1, 0)) rfl) rfl rfl ?_
  refine xcl_puts hE hgA hgF hu hy q27 (fun ph' x a1 a2 a3 => ?_) 42 0 _ _ (by omega) (by omega) (by decide) hP g9 xcp_0
  refine gt_ret (ykc_238 (e := (7, .return_, 0)) rfl) rfl ?_
  exact ⟨rfl, a1, a2, a3⟩

set_option maxRecDepth 6000 in
theorem xzz (k : Nat) : ¬ (k : Int) < (Int32.ofInt 0).toInt := by
  have h : (Int32.ofInt 0).toInt = 0 := by decide
  omega
set_option maxRecDepth 6000 in
theorem xl0 : (Int64.ofNat kG0).toInt = 0 := by decide
set_option maxRecDepth 6000 in
theorem xl2 : (2 : Int64).toInt = 2 := by decide

set_option maxRecDepth 6000 in
theorem xagain {R : pm_H → Prop} (hR : xHE xX xgA_VR xgF_VR R) {m : Int} (hm : m ≤ 2147483646) (h0m : (0 : Int) ≤ m) {D n : Nat} (hD : 3 ≤ D) {ph : pm_H} {y : Int32} (hP : xH xX kK m 0 ph) (hV : xV ph) (hI : xINV n ph) (hr : R ph) : ∃ v ph', pm_Rd kK false D 297 [.ref 170, .int y] ph (v, ph', 0, 0) ∧ (∃ r : Int32, v = some (.int r) ∧ xH xX kK m 0 ph' ∧ xV ph' ∧ xINV n ph' ∧ R ph') := by
  have hE : xHE xX xgA_VR xgF_VR (fun p => xV p ∧ R p) := xHE_and xHEVR hR
  obtain ⟨D9, rfl⟩ : ∃ D9, D = D9 + 1 + 1 := ⟨D - 2, by omega⟩
  refine xRd_mk (nl := 3) rfl rfl ?_
  show xGT kK (D9 + 1) 297 _ (0, [some (.ref 170), some (.int y), none], [], ph, 0, 0)
  refine gt_load (v := .ref 170) (n := 1) (ykc_297 (e := (2, .aload_n kF0, 0)) rfl) rfl rfl ?_
  refine gt_alu (st' := [.int (Int32.ofInt 0), .ref 170]) (ykc_297 (e := (0, .iconst 0, 0)) rfl) rfl rfl ?_
  refine gt_pf (y := Int32.ofInt 0) (ykc_297 (e := (5, .putfield 3, 0)) rfl) rfl hP rfl rfl (by decide) (by decide) rfl (fun ph1 hP1 u1 => ?_)
  refine gt_load (v := .int y) (n := 1) (ykc_297 (e := (2, .iload_n kF1, 0)) rfl) rfl rfl ?_
  refine gt_alu (st' := [.long y.toInt64]) (ykc_297 (e := (0, .i2l, 0)) rfl) rfl rfl ?_
  refine gt_alu (st' := [.long (Int64.ofNat kG0), .long y.toInt64]) (ykc_297 (e := (0, .lconst kG0, 0)) rfl) rfl rfl ?_
  refine gt_push (v := .long (2 : Int64)) (n := 3) (ykc_297 (e := (1, .ldc2_w 330, 0)) rfl) rfl rfl ?_
  refine gt_cs (n := 3) (as := [.long y.toInt64, .long (Int64.ofNat kG0), .long (2 : Int64)]) (r := []) (ykc_297 (e := (6, .invokestatic 126, 0)) rfl) rfl rfl rfl rfl (xin_run (D := D9)) rfl (fun vv ph2 hv => ?_)
  obtain ⟨z, e9, e8, z_s⟩ := hv; subst e9; have e7 := e8.symm; subst e7; rw [tl_i2l, xl0, xl2] at z_s
  change xGT kK (D9 + 1) 297 _ (14, [some (.ref 170), some (.int y), none], [.int z], ph1, 0, 0)
  have g1 : xV ph1 ∧ R ph1 := xu1_E hE u1 rfl rfl rfl ⟨hV, hr⟩
  have i1 : xINV n ph1 := xu1_E (xHEI n) u1 rfl rfl rfl hI
  by_cases hz : z.toInt = 0
  · refine gt_zeq_t (ykc_297 (e := (4, .ifCond .eq 25, 39)) rfl) hz ?_
    refine gt_alu (st' := [.int (Int32.ofInt 0)]) (ykc_297 (e := (0, .iconst 0, 0)) rfl) rfl rfl ?_
    refine gt_ret (ykc_297 (e := (7, .ireturn, 0)) rfl) (xretz (by decide) (by decide)) ?_
    exact ⟨_, rfl, hP1, g1.1, i1, g1.2⟩
  · refine gt_zeq_f (ykc_297 (e := (4, .ifCond .eq 25, 39)) rfl) hz rfl ?_
    refine gt_load (v := .ref 170) (n := 1) (ykc_297 (e := (2, .aload_n kF0, 0)) rfl) rfl rfl ?_
    refine gt_gfr (A := 198) (ykc_297 (e := (5, .getfield 113, 0)) rfl) rfl hP1 rfl rfl rfl ?_
    refine gt_load (v := .int y) (n := 1) (ykc_297 (e := (2, .iload_n kF1, 0)) rfl) rfl rfl ?_
    refine gt_bal (A := 198) (ykc_297 (e := (5, .baload, 0)) rfl) hP1 rfl rfl (by omega) (by omega) rfl (fun ik g_ik b0_ik b1_ik => ?_)
    by_cases hi : ik.toInt = 0
    · refine gt_zeq_t (ykc_297 (e := (4, .ifCond .eq 16, 39)) rfl) hi ?_
      refine gt_alu (st' := [.int (Int32.ofInt 0)]) (ykc_297 (e := (0, .iconst 0, 0)) rfl) rfl rfl ?_
      refine gt_ret (ykc_297 (e := (7, .ireturn, 0)) rfl) (xretz (by decide) (by decide)) ?_
      exact ⟨_, rfl, hP1, g1.1, i1, g1.2⟩
    · refine gt_zeq_f (ykc_297 (e := (4, .ifCond .eq 16, 39)) rfl) hi rfl ?_
      refine gt_load (v := .ref 170) (n := 1) (ykc_297 (e := (2, .aload_n kF0, 0)) rfl) rfl rfl ?_
      refine gt_gfr (A := 199) (ykc_297 (e := (5, .getfield 116, 0)) rfl) rfl hP1 rfl rfl rfl ?_
      refine gt_load (v := .int y) (n := 1) (ykc_297 (e := (2, .iload_n kF1, 0)) rfl) rfl rfl ?_
      refine gt_ial (A := 199) (ykc_297 (e := (5, .iaload, 0)) rfl) hP1 rfl rfl (by omega) (by omega) rfl (fun kc g_kc b_kc => ?_)
      refine gt_load (v := .ref 170) (n := 1) (ykc_297 (e := (2, .aload_n kF0, 0)) rfl) rfl rfl ?_
      refine gt_gfi (ykc_297 (e := (5, .getfield 191, 0)) rfl) rfl hP1 rfl rfl (fun changes f_changes f0_changes f1_changes => ?_)
      by_cases he : kc.toInt = changes.toInt
      case neg =>
        refine gt_ieq_f (ykc_297 (e := (4, .if_icmp .eq 5, 41)) rfl) he rfl ?_
        refine gt_alu (st' := [.int (Int32.ofInt 0)]) (ykc_297 (e := (0, .iconst 0, 0)) rfl) rfl rfl ?_
        refine gt_ret (ykc_297 (e := (7, .ireturn, 0)) rfl) (xretz (by decide) (by decide)) ?_
        exact ⟨_, rfl, hP1, g1.1, i1, g1.2⟩
      case pos =>
        refine gt_ieq_t (ykc_297 (e := (4, .if_icmp .eq 5, 41)) rfl) he ?_
        refine gt_alu (st' := [.int (Int32.ofInt 0)]) (ykc_297 (e := (0, .iconst 0, 0)) rfl) rfl rfl ?_
        refine gt_store (L' := [some (.ref 170), some (.int y), some (.int (Int32.ofInt 0))]) (st' := []) (n := 1) (ykc_297 (e := (3, .istore_n kF2, 0)) rfl) rfl rfl ?_
        have r2 : xrowG ph1 200 (41 * y.toInt.toNat) := xINV_kept i1 (by omega) g_ik hi g_kc f_changes he
        refine xcl_again hE rfl (fun _ => rfl) (u := y.toInt.toNat) (by omega) (by omega) (fun ph' x a1 a2 a3 => ?_) 42 0 _ _ (by omega) (by omega) (by decide) hP1 g1 xcp_0
        refine gt_load (v := .ref 170) (n := 1) (ykc_297 (e := (2, .aload_n kF0, 0)) rfl) rfl rfl ?_
        refine gt_alu (st' := [.int (Int32.ofInt 0), .ref 170]) (ykc_297 (e := (0, .iconst 0, 0)) rfl) rfl rfl ?_
        refine gt_pf (y := Int32.ofInt 0) (ykc_297 (e := (5, .putfield 188, 0)) rfl) rfl a1 rfl rfl (by decide) (by decide) rfl (fun ph51 hP51 u51 => ?_)
        refine gt_alu (st' := [.int (Int32.ofInt 1)]) (ykc_297 (e := (0, .iconst 1, 0)) rfl) rfl rfl ?_
        refine gt_ret (ykc_297 (e := (7, .ireturn, 0)) rfl) (xretz (by decide) (by decide)) ?_
        have g3 := xu1_E hE u51 rfl rfl rfl a2
        exact ⟨_, rfl, hP51, g3.1, xINV_27 (xINV_now i1 a3 r2) u51 (fun U q k hk => absurd hk (xzz k)), g3.2⟩

set_option maxRecDepth 6000 in
theorem xcl_keep {E : pm_H → Prop} {gA : List Nat} {gF : List (Nat × Nat)} (hE : xHE xX gA gF E) (hgA : xmemN gA 30 = false) (hgF : ∀ k, xmemP gF 30 k = false) {m : Int} {w D : Nat} {Q : Option Value → pm_H → Prop} {y : Int32} {u : Nat} (hu : u ≤ 2) (hy : y.toInt = (u : Int)) {ph0 : pm_H} (hQ : ∀ (ph' : pm_H) (x : Int32), xH xX kK m w ph' → E ph' → xcp ph0 ph' 200 (41 * u) 174 0 41 → xGT kK D 296 Q (67, [some (.ref 170), some (.int y), some (.int x)], [], ph', 0, 0)) : ∀ (s i : Nat) (x : Int32) (ph : pm_H), 41 - i < s → i ≤ 41 → x.toInt = (i : Int) → xH xX kK m w ph → E ph → xcp ph0 ph 200 (41 * u) 174 0 i → xGT kK D 296 Q (38, [some (.ref 170), some (.int y), some (.int x)], [], ph, 0, 0) := by
  intro s
  induction s with
  | zero => intro i x ph h; omega
  | succ s ih =>
    intro i x ph hs hi hx hP g9 hc
    by_cases hin : i = 41
    · subst hin
      refine gt_load (v := .int x) (n := 1) (ykc_296 (e := (2, .iload_n kF2, 0)) rfl) rfl rfl ?_
      refine gt_push (v := .int ((Int8.ofInt 41).toInt32)) (n := 2) (ykc_296 (e := (1, .bipush 41, 0)) rfl) rfl rfl ?_
      refine gt_ige_t (ykc_296 (e := (4, .if_icmp .ge 26, 67)) rfl) (by rw [x41]; omega) ?_
      exact hQ ph x hP g9 hc
    · have hi2 : i < 41 := by omega
      refine gt_load (v := .int x) (n := 1) (ykc_296 (e := (2, .iload_n kF2, 0)) rfl) rfl rfl ?_
      refine gt_push (v := .int ((Int8.ofInt 41).toInt32)) (n := 2) (ykc_296 (e := (1, .bipush 41, 0)) rfl) rfl rfl ?_
      refine gt_ige_f (ykc_296 (e := (4, .if_icmp .ge 26, 67)) rfl) (by rw [x41]; omega) rfl ?_
      refine gt_load (v := .ref 170) (n := 1) (ykc_296 (e := (2, .aload_n kF0, 0)) rfl) rfl rfl ?_
      refine gt_gfr (A := 200) (ykc_296 (e := (5, .getfield 119, 0)) rfl) rfl hP rfl rfl rfl ?_
      refine gt_push (v := .int ((Int8.ofInt 41).toInt32)) (n := 2) (ykc_296 (e := (1, .bipush 41, 0)) rfl) rfl rfl ?_
      refine gt_load (v := .int y) (n := 1) (ykc_296 (e := (2, .iload_n kF1, 0)) rfl) rfl rfl ?_
      obtain ⟨y1, e_y1, h_y1⟩ : ∃ zq : Int32, ((Int8.ofInt 41).toInt32) * y = zq ∧ zq.toInt = 41 * y.toInt := ⟨_, rfl, by rw [ti_mul (by rw [x41]; omega) (by rw [x41]; omega), x41]⟩
      refine gt_alu (st' := [.int y1, .ref 200]) (ykc_296 (e := (0, .imul, 0)) rfl) (by rw [← e_y1]; exact rfl) rfl ?_
      refine gt_load (v := .int x) (n := 1) (ykc_296 (e := (2, .iload_n kF2, 0)) rfl) rfl rfl ?_
      obtain ⟨y2, e_y2, h_y2⟩ : ∃ zq : Int32, y1 + x = zq ∧ zq.toInt = 41 * y.toInt + x.toInt := ⟨_, rfl, by rw [ti_add (by rw [h_y1]; omega) (by rw [h_y1]; omega), h_y1]⟩
      refine gt_alu (st' := [.int y2, .ref 200]) (ykc_296 (e := (0, .iadd, 0)) rfl) (by rw [← e_y2]; exact rfl) rfl ?_
      refine gt_load (v := .ref 170) (n := 1) (ykc_296 (e := (2, .aload_n kF0, 0)) rfl) rfl rfl ?_
      refine gt_gfr (A := 174) (ykc_296 (e := (5, .getfield 41, 0)) rfl) rfl hP rfl rfl rfl ?_
      refine gt_load (v := .int x) (n := 1) (ykc_296 (e := (2, .iload_n kF2, 0)) rfl) rfl rfl ?_
      refine gt_ial (A := 174) (ykc_296 (e := (5, .iaload, 0)) rfl) hP rfl rfl (by omega) (by omega) rfl (fun e0 g_e0 b_e0 => ?_)
      refine gt_ias (A := 200) (y := e0) (x := y2) (ykc_296 (e := (5, .iastore, 0)) rfl) hP rfl rfl (by omega) (by omega) (xmod_eq b_e0 (by omega)) rfl (fun ph101 hP101 u101 => ?_)
      obtain ⟨x1, e_x1, h_x1⟩ : ∃ zq : Int32, x + Int32.ofInt 1 = zq ∧ zq.toInt = x.toInt + 1 := ⟨_, rfl, by rw [ti_add (by rw [xi1]; omega) (by rw [xi1]; omega), xi1]⟩
      refine gt_store (L' := [some (.ref 170), some (.int y), some (.int x1)]) (st' := []) (n := 3) (ykc_296 (e := (3, .iinc 2 1, 0)) rfl) (by rw [← e_x1]; rfl) rfl ?_
      refine gt_br (pc' := 38) (st' := []) (ykc_296 (e := (4, .goto (-26), 38)) rfl) rfl ?_
      have es : x.toInt.toNat = 0 + i := by omega
      have ed : y2.toInt.toNat = (41 * u) + i := by omega
      have w1 : xget ph 174 (0 + i) = some (.int e0) := by rw [← es]; exact g_e0
      have w2 := u101
      rw [ed] at w2
      exact ih (i + 1) x1 _ (by omega) (by omega) (by omega) hP101 (xu1_E hE w2 (i := 30) rfl hgA (hgF _) g9) (xcp_s hc (by decide) w1 w2)

set_option maxRecDepth 6000 in
theorem xINV_keep {n k : Nat} {ph1 ph2 ph3 ph' : pm_H} {yb C : Int32} (h : xINV n ph1) (u2 : xu0 ph1 ph2 198 ∧ xgb ph2 198 k yb ∧ ∀ j z, j ≠ k → (xgb ph2 198 j z ↔ xgb ph1 198 j z)) (hC : xget ph1 170 7 = some (.int C)) (u3 : xu1 ph2 ph3 199 k (.int C)) (a3 : xcp ph3 ph' 200 (41 * k) 174 0 41) : xINV n ph' := by
  obtain ⟨W, P, T, U, C2, ⟨f1, f2, f3, f4, f5⟩, ⟨b1, b2, b3, b4⟩, g1, g2, g3⟩ := h
  have e5 := xget_int f5 hC
  subst e5
  have hf : ∀ c, xget ph' 170 c = xget ph1 170 c := fun c => ((a3.2.1 170 c (fun q => absurd q.1 (by decide))).trans (u3.2.1 170 c (fun q => absurd q.1 (by decide)))).trans (u2.1.1 170 c)
  have ha : ∀ a, a ≠ 198 → a ≠ 199 → a ≠ 200 → pm_at ph' a = pm_at ph1 a := fun a h1 h2 h3 => ((a3.2.2 a h3).trans (u3.2.2 a h2)).trans (u2.1.2 a h1)
  refine ⟨W, P, T, U, C2, ⟨(hf 4).trans f1, (hf 5).trans f2, (hf 6).trans f3, (hf 27).trans f4, (hf 7).trans f5⟩, ⟨b1, b2, b3, b4⟩, xgr_eq b1 b2 (fun c _ => xget_at (ha 174 (by decide) (by decide) (by decide)) _) g1, fun u hu => xgr_eq b1 b2 (fun c _ => xget_at (ha 183 (by decide) (by decide) (by decide)) _) (g2 u hu), fun i hi z hz hz0 => ?_⟩
  have hz2 : xgb ph2 198 i z := xgb_eq ((a3.2.2 198 (by decide)).trans (u3.2.2 198 (by decide))) hz
  by_cases ei : i = k
  · subst ei
    refine ⟨C2, (a3.2.1 199 i (fun q => absurd q.1 (by decide))).trans u3.1, Int.le_refl _, fun _ => xgr_cp b1 b2 (fun c hc => ?_) g1⟩
    rw [a3.1 c hc]
    exact (u3.2.1 174 _ (fun q => absurd q.1 (by decide))).trans (u2.1.1 174 _)
  · obtain ⟨K, k1, k2, k3⟩ := g3 i hi z ((u2.2.2 i z ei).mp hz2) hz0
    refine ⟨K, ?_, k2, fun e => xgr_eq b1 b2 (fun c hc => ?_) (k3 e)⟩
    · exact ((a3.2.1 199 i (fun q => absurd q.1 (by decide))).trans (u3.2.1 199 i (fun q => ei q.2))).trans ((u2.1.1 199 i).trans k1)
    · exact ((a3.2.1 200 _ (fun q => by obtain ⟨-, q1, q2⟩ := q; omega)).trans (u3.2.1 200 _ (fun q => absurd q.1 (by decide)))).trans (u2.1.1 200 _)

set_option maxRecDepth 6000 in
theorem xkeeps {R : pm_H → Prop} (hR : xHE xX xgA_VR xgF_VR R) {m : Int} (hm : m ≤ 2147483646) (h0m : (0 : Int) ≤ m) {D n : Nat} (hD : 3 ≤ D) {ph : pm_H} {y : Int32} (hP : xH xX kK m 0 ph) (hV : xV ph) (hI : xINV n ph) (hr : R ph) : ∃ v ph', pm_Rd kK false D 296 [.ref 170, .int y] ph (v, ph', 0, 0) ∧ (∃ r : Int32, v = some (.int r) ∧ xH xX kK m 0 ph' ∧ xV ph' ∧ xINV n ph' ∧ R ph' ∧ ((r.toInt = 1 ∧ 0 ≤ y.toInt ∧ y.toInt ≤ 2) ∨ (r.toInt = 0 ∧ (y.toInt < 0 ∨ 2 < y.toInt)))) := by
  have hE : xHE xX xgA_VR xgF_VR (fun p => xV p ∧ R p) := xHE_and xHEVR hR
  obtain ⟨D9, rfl⟩ : ∃ D9, D = D9 + 1 + 1 := ⟨D - 2, by omega⟩
  refine xRd_mk (nl := 3) rfl rfl ?_
  show xGT kK (D9 + 1) 296 _ (0, [some (.ref 170), some (.int y), none], [], ph, 0, 0)
  refine gt_load (v := .ref 170) (n := 1) (ykc_296 (e := (2, .aload_n kF0, 0)) rfl) rfl rfl ?_
  refine gt_alu (st' := [.int (Int32.ofInt 0), .ref 170]) (ykc_296 (e := (0, .iconst 0, 0)) rfl) rfl rfl ?_
  refine gt_pf (y := Int32.ofInt 0) (ykc_296 (e := (5, .putfield 3, 0)) rfl) rfl hP rfl rfl (by decide) (by decide) rfl (fun ph1 hP1 u1 => ?_)
  refine gt_load (v := .int y) (n := 1) (ykc_296 (e := (2, .iload_n kF1, 0)) rfl) rfl rfl ?_
  refine gt_alu (st' := [.long y.toInt64]) (ykc_296 (e := (0, .i2l, 0)) rfl) rfl rfl ?_
  refine gt_alu (st' := [.long (Int64.ofNat kG0), .long y.toInt64]) (ykc_296 (e := (0, .lconst kG0, 0)) rfl) rfl rfl ?_
  refine gt_push (v := .long (2 : Int64)) (n := 3) (ykc_296 (e := (1, .ldc2_w 330, 0)) rfl) rfl rfl ?_
  refine gt_cs (n := 3) (as := [.long y.toInt64, .long (Int64.ofNat kG0), .long (2 : Int64)]) (r := []) (ykc_296 (e := (6, .invokestatic 126, 0)) rfl) rfl rfl rfl rfl (xin_run (D := D9)) rfl (fun vv ph2 hv => ?_)
  obtain ⟨z, e9, e8, z_s⟩ := hv; subst e9; have e7 := e8.symm; subst e7; rw [tl_i2l, xl0, xl2] at z_s
  change xGT kK (D9 + 1) 296 _ (14, [some (.ref 170), some (.int y), none], [.int z], ph1, 0, 0)
  have g1 : xV ph1 ∧ R ph1 := xu1_E hE u1 rfl rfl rfl ⟨hV, hr⟩
  have i1 : xINV n ph1 := xu1_E (xHEI n) u1 rfl rfl rfl hI
  by_cases hz : z.toInt = 0
  · refine gt_zne_f (ykc_296 (e := (4, .ifCond .ne 5, 19)) rfl) hz rfl ?_
    refine gt_alu (st' := [.int (Int32.ofInt 0)]) (ykc_296 (e := (0, .iconst 0, 0)) rfl) rfl rfl ?_
    refine gt_ret (ykc_296 (e := (7, .ireturn, 0)) rfl) (xretz (by decide) (by decide)) ?_
    exact ⟨_, rfl, hP1, g1.1, i1, g1.2, Or.inr ⟨by decide, by omega⟩⟩
  · refine gt_zne_t (ykc_296 (e := (4, .ifCond .ne 5, 19)) rfl) hz ?_
    refine gt_load (v := .ref 170) (n := 1) (ykc_296 (e := (2, .aload_n kF0, 0)) rfl) rfl rfl ?_
    refine gt_gfr (A := 198) (ykc_296 (e := (5, .getfield 113, 0)) rfl) rfl hP1 rfl rfl rfl ?_
    refine gt_load (v := .int y) (n := 1) (ykc_296 (e := (2, .iload_n kF1, 0)) rfl) rfl rfl ?_
    refine gt_alu (st' := [.int (Int32.ofInt 1), .int y, .ref 198]) (ykc_296 (e := (0, .iconst 1, 0)) rfl) rfl rfl ?_
    refine gt_bas (A := 198) (y := Int32.ofInt 1) (x := y) (ykc_296 (e := (5, .bastore, 0)) rfl) hP1 rfl rfl (by omega) (by omega) rfl (fun ph103 hP103 u103 => ?_)
    refine gt_load (v := .ref 170) (n := 1) (ykc_296 (e := (2, .aload_n kF0, 0)) rfl) rfl rfl ?_
    refine gt_gfr (A := 199) (ykc_296 (e := (5, .getfield 116, 0)) rfl) rfl hP103 rfl rfl rfl ?_
    refine gt_load (v := .int y) (n := 1) (ykc_296 (e := (2, .iload_n kF1, 0)) rfl) rfl rfl ?_
    refine gt_load (v := .ref 170) (n := 1) (ykc_296 (e := (2, .aload_n kF0, 0)) rfl) rfl rfl ?_
    refine gt_gfi (ykc_296 (e := (5, .getfield 191, 0)) rfl) rfl hP103 rfl rfl (fun changes f_changes f0_changes f1_changes => ?_)
    refine gt_ias (A := 199) (y := changes) (x := y) (ykc_296 (e := (5, .iastore, 0)) rfl) hP103 rfl rfl (by omega) (by omega) xany rfl (fun ph104 hP104 u104 => ?_)
    have f104_7 : xget ph104 170 7 = some (.int changes) := (u104.2.1 170 7 (fun q => absurd q.1 (by decide))).trans f_changes
    refine gt_alu (st' := [.int (Int32.ofInt 0)]) (ykc_296 (e := (0, .iconst 0, 0)) rfl) rfl rfl ?_
    refine gt_store (L' := [some (.ref 170), some (.int y), some (.int (Int32.ofInt 0))]) (st' := []) (n := 1) (ykc_296 (e := (3, .istore_n kF2, 0)) rfl) rfl rfl ?_
    have g3 : xV ph104 ∧ R ph104 := xu1_E hE u104 rfl rfl rfl (xu0_E hE u103.1 rfl rfl g1)
    have hC : xget ph1 170 7 = some (.int changes) := (u103.1.1 170 7).symm.trans f_changes
    refine xcl_keep hE rfl (fun _ => rfl) (u := y.toInt.toNat) (by omega) (by omega) (fun ph' x a1 a2 a3 => ?_) 42 0 _ _ (by omega) (by omega) (by decide) hP104 g3 xcp_0
    refine gt_alu (st' := [.int (Int32.ofInt 1)]) (ykc_296 (e := (0, .iconst 1, 0)) rfl) rfl rfl ?_
    refine gt_ret (ykc_296 (e := (7, .ireturn, 0)) rfl) (xretz (by decide) (by decide)) ?_
    exact ⟨_, rfl, a1, a2.1, xINV_keep i1 u103 hC u104 a3, a2.2, Or.inl ⟨by decide, by omega, by omega⟩⟩
end
section
/-! adds of the reference, by hand, printed by wip/x/h_vadds.py -/
set_option maxRecDepth 6000 in
theorem x15 : ((Int8.ofInt 15).toInt32).toInt = 15 := by decide
set_option maxRecDepth 6000 in
theorem x615 : ((Int16.ofInt 615).toInt32).toInt = 615 := by decide
set_option maxRecDepth 6000 in
theorem xH_eq {X : xD} {K : pm_K} {m : Int} {w : Nat} {ph ph' : pm_H} (h : ∀ a, pm_at ph' a = pm_at ph a) (hP : xH X K m w ph) : xH X K m w ph' := fun a i ho => by
  obtain ⟨s, t, h1, h2, h3⟩ := hP a i ho
  exact ⟨s, t, h1, h2, xcG_at (h a).symm h3⟩
section
variable {j pc pc' aux D : Nat} {Q : Option Value → pm_H → Prop} {L : List (Option Value)} {st : List Value} {ph : pm_H} {v9 : Value}
set_option maxRecDepth 6000 in
theorem gt_gfraw {i k : Nat} {v : Value} {fl : List Value} (hc : pm_code kK j pc = some (5, .getfield i, aux)) (hl : pm_lnk kK (pm_own kK j) i = some (6, 13, k, v9)) (hat : pm_at ph 170 = some (.inr (13, fl))) (hv : fl[k]? = some v) (hp : pc + 3 = pc') (kk : xGT kK D j Q (pc', L, v :: st, ph, 0, 0)) : xGT kK D j Q (pc, L, .ref 170 :: st, ph, 0, 0) :=
  gt_mem hc (by
    unfold pm_mem
    have e : Nat.beq 13 13 = true := rfl
    simp only [hl, hat, e, hv, cond_true]) hp kk
set_option maxRecDepth 6000 in
theorem gt_pfraw {i k : Nat} {y : Int32} {fl : List Value} (hc : pm_code kK j pc = some (5, .putfield i, aux)) (hl : pm_lnk kK (pm_own kK j) i = some (6, 13, k, v9)) (hat : pm_at ph 170 = some (.inr (13, fl))) (hty : pm_fty kK 13 k = .int) (hk : k < fl.length) (hp : pc + 3 = pc') (kk : ∀ ph', pm_at ph' 170 = some (.inr (13, fl.set k (.int y))) → (∀ a, a ≠ 170 → pm_at ph' a = pm_at ph a) → xGT kK D j Q (pc', L, st, ph', 0, 0)) : xGT kK D j Q (pc, L, .int y :: .ref 170 :: st, ph, 0, 0) := by
  have hbl : Nat.blt k fl.length = true := Nat.ble_eq_true_of_le hk
  refine gt_mem (ph' := ph.set 170 (.inr (13, fl.set k (.int y)))) hc ?_ hp (kk _ (xat_self hat) (fun a h => xat_ne h))
  unfold pm_mem
  have e : Nat.beq 13 13 = true := rfl
  have e2 : pm_fit .int (.int y) = true := rfl
  simp only [hl, hat, e, hty, e2, hbl, Bool.and_self, cond_true]
set_option maxRecDepth 6000 in
theorem gt_iasraw {A : Nat} {x y : Int32} {l : List Int32} (hc : pm_code kK j pc = some (5, .iastore, aux)) (hat : pm_at ph A = some (.inl (0, .inl l))) (h0 : 0 ≤ x.toInt) (hlt : x.toInt.toNat < l.length) (hp : pc + 1 = pc') (kk : ∀ ph', pm_at ph' A = some (.inl (0, .inl (l.set x.toInt.toNat y))) → (∀ a, a ≠ A → pm_at ph' a = pm_at ph a) → xGT kK D j Q (pc', L, st, ph', 0, 0)) : xGT kK D j Q (pc, L, .int y :: .int x :: .ref A :: st, ph, 0, 0) := by
  refine gt_mem (ph' := ph.set A (.inl (0, .inl (l.set x.toInt.toNat y)))) hc ?_ hp (kk _ (xat_self hat) (fun a h => xat_ne h))
  unfold pm_mem
  simp only [hat, xup_eq h0 hlt]
end

set_option maxRecDepth 6000 in
theorem xadd_loop {D : Nat} {Q : Option Value → pm_H → Prop} {fl : List Value} {y : Int32} {l0 : List Int32} {phS : pm_H} (hl0 : l0.length = 656) (h28 : fl[28]? = some (.ref 183)) (hQ : ∀ (ph' : pm_H) (l : List Int32) (x : Int32), pm_at ph' 170 = some (.inr (13, fl)) → pm_at ph' 183 = some (.inl (0, .inl l)) → l.length = 656 → (∀ k, l[k]? = if k < 615 then l0[k + 41]? else l0[k]?) → (∀ a, a ≠ 183 → pm_at ph' a = pm_at phS a) → xGT kK D 239 Q (49, [some (.ref 170), some (.int y), some (.int x)], [], ph', 0, 0)) : ∀ (s i : Nat) (x : Int32) (l : List Int32) (ph : pm_H), 615 - i < s → i ≤ 615 → x.toInt = (i : Int) → pm_at ph 170 = some (.inr (13, fl)) → pm_at ph 183 = some (.inl (0, .inl l)) → l.length = 656 → (∀ k, l[k]? = if k < i then l0[k + 41]? else l0[k]?) → (∀ a, a ≠ 183 → pm_at ph a = pm_at phS a) → xGT kK D 239 Q (21, [some (.ref 170), some (.int y), some (.int x)], [], ph, 0, 0) := by
  intro s
  induction s with
  | zero => intro i x l ph h; omega
  | succ s ih =>
    intro i x l ph hs hi hx hM hU hlen hel hO
    by_cases hin : i = 615
    · subst hin
      refine gt_load (v := .int x) (n := 1) (ykc_239 (e := (2, .iload_n kF2, 0)) rfl) rfl rfl ?_
      refine gt_push (v := .int ((Int16.ofInt 615).toInt32)) (n := 3) (ykc_239 (e := (1, .sipush 615, 0)) rfl) rfl rfl ?_
      refine gt_ige_t (ykc_239 (e := (4, .if_icmp .ge 24, 49)) rfl) (by rw [x615]; omega) ?_
      exact hQ ph l x hM hU hlen hel hO
    · obtain ⟨e0, he0⟩ : ∃ e0, l[i + 41]? = some e0 := ⟨l[i + 41]'(by omega), List.getElem?_eq_getElem _⟩
      have hg : xget ph 183 (i + 41) = some (.int e0) := by
        unfold xget
        rw [hU]
        show (l[i + 41]?).map Value.int = _
        rw [he0]
        rfl
      have h00 : l0[i + 41]? = some e0 := by
        rw [← he0, hel (i + 41), if_neg (by omega)]
      refine gt_load (v := .int x) (n := 1) (ykc_239 (e := (2, .iload_n kF2, 0)) rfl) rfl rfl ?_
      refine gt_push (v := .int ((Int16.ofInt 615).toInt32)) (n := 3) (ykc_239 (e := (1, .sipush 615, 0)) rfl) rfl rfl ?_
      refine gt_ige_f (ykc_239 (e := (4, .if_icmp .ge 24, 49)) rfl) (by rw [x615]; omega) rfl ?_
      refine gt_load (v := .ref 170) (n := 1) (ykc_239 (e := (2, .aload_n kF0, 0)) rfl) rfl rfl ?_
      refine gt_gfraw (ykc_239 (e := (5, .getfield 68, 0)) rfl) rfl hM h28 rfl ?_
      refine gt_load (v := .int x) (n := 1) (ykc_239 (e := (2, .iload_n kF2, 0)) rfl) rfl rfl ?_
      refine gt_load (v := .ref 170) (n := 1) (ykc_239 (e := (2, .aload_n kF0, 0)) rfl) rfl rfl ?_
      refine gt_gfraw (ykc_239 (e := (5, .getfield 68, 0)) rfl) rfl hM h28 rfl ?_
      refine gt_load (v := .int x) (n := 1) (ykc_239 (e := (2, .iload_n kF2, 0)) rfl) rfl rfl ?_
      refine gt_push (v := .int ((Int8.ofInt 41).toInt32)) (n := 2) (ykc_239 (e := (1, .bipush 41, 0)) rfl) rfl rfl ?_
      obtain ⟨y2, e_y2, h_y2⟩ : ∃ zq : Int32, x + ((Int8.ofInt 41).toInt32) = zq ∧ zq.toInt = x.toInt + 41 := ⟨_, rfl, by rw [ti_add (by rw [x41]; omega) (by rw [x41]; omega), x41]⟩
      refine gt_alu (st' := [.int y2, .ref 183, .int x, .ref 183]) (ykc_239 (e := (0, .iadd, 0)) rfl) (by rw [← e_y2]; rfl) rfl ?_
      refine gt_ialk (A := 183) (k := i + 41) (y := e0) (ykc_239 (e := (5, .iaload, 0)) rfl) hg ⟨l, hU⟩ (by omega) rfl ?_
      refine gt_iasraw (ykc_239 (e := (5, .iastore, 0)) rfl) hU (by omega) (by omega) rfl (fun ph2 hU2 hO2 => ?_)
      obtain ⟨x1, e_x1, h_x1⟩ : ∃ zq : Int32, x + Int32.ofInt 1 = zq ∧ zq.toInt = x.toInt + 1 := ⟨_, rfl, by rw [ti_add (by rw [xi1]; omega) (by rw [xi1]; omega), xi1]⟩
      refine gt_store (L' := [some (.ref 170), some (.int y), some (.int x1)]) (st' := []) (n := 3) (ykc_239 (e := (3, .iinc 2 1, 0)) rfl) (by rw [← e_x1]; rfl) rfl ?_
      refine gt_br (pc' := 21) (st' := []) (ykc_239 (e := (4, .goto (-25), 21)) rfl) rfl ?_
      have ek : x.toInt.toNat = i := by omega
      rw [ek] at hU2
      refine ih (i + 1) x1 (l.set i e0) ph2 (by omega) (by omega) (by omega) ((hO2 170 (by decide)).trans hM) hU2 (by rw [List.length_set]; exact hlen) (fun k => ?_) (fun a ha => (hO2 a ha).trans (hO a ha))
      by_cases ki : k = i
      · subst ki
        rw [List.getElem?_set_self (by omega), if_pos (by omega), h00]
      · rw [List.getElem?_set_ne (Ne.symm ki), hel k]
        by_cases kl : k < i
        · rw [if_pos kl, if_pos (by omega)]
        · rw [if_neg kl, if_neg (by omega)]

set_option maxRecDepth 6000 in
theorem xINV_27r {n : Nat} {ph ph' : pm_H} {y : Int32} (h : xINV n ph) (u : xu1 ph ph' 170 27 (.int y)) (hy : ∀ k : Nat, (k : Int) < y.toInt → xrowG ph 183 (41 * k)) : xINV n ph' := by
  obtain ⟨W, P, T, U, C, ⟨f1, f2, f3, f4, f5⟩, ⟨b1, b2, b3, b4⟩, g1, g2, g3⟩ := h
  have hf : ∀ k, k ≠ 27 → xget ph' 170 k = xget ph 170 k := fun k hk => u.2.1 170 k (fun q => hk q.2)
  have ha : ∀ a, a ≠ 170 → pm_at ph' a = pm_at ph a := u.2.2
  refine ⟨W, P, T, y, C, ⟨(hf 4 (by decide)).trans f1, (hf 5 (by decide)).trans f2, (hf 6 (by decide)).trans f3, u.1, (hf 7 (by decide)).trans f5⟩, ⟨b1, b2, b3, b4⟩, xgr_eq b1 b2 (fun k _ => xget_at (ha 174 (by decide)) _) g1, fun k hk => xgr_eq b1 b2 (fun c _ => xget_at (ha 183 (by decide)) _) (hy k hk W P T f1 f2 f3 b1 b2), fun i hi z hz hz0 => ?_⟩
  obtain ⟨K, k1, k2, k3⟩ := g3 i hi z (xgb_eq (ha 198 (by decide)) hz) hz0
  exact ⟨K, (xget_at (ha 199 (by decide)) i).trans k1, k2, fun e => xgr_eq b1 b2 (fun c _ => xget_at (ha 200 (by decide)) _) (k3 e)⟩
set_option maxRecDepth 6000 in
/-- undone moved up by a row -/
theorem xINV_shift {n : Nat} {ph ph' : pm_H} (h : xINV n ph) {U : Int32} (q : xget ph 170 27 = some (.int U)) (hU : U.toInt = 15) (hr : xrowG ph 183 (41 * 15)) (ho : ∀ a, a ≠ 183 → pm_at ph' a = pm_at ph a) (hs : ∀ k, k < 615 → xget ph' 183 k = xget ph 183 (k + 41)) : xINV n ph' := by
  have hrow : ∀ k : Nat, k < 16 → xrowG ph 183 (41 * k) := fun k hk => by
    by_cases e : k = 15
    · subst e
      exact hr
    · exact xINV_row h q (by omega)
  obtain ⟨W, P, T, U2, C, ⟨f1, f2, f3, f4, f5⟩, ⟨b1, b2, b3, b4⟩, g1, g2, g3⟩ := h
  have e9 := xget_int f4 q
  subst e9
  have hf : ∀ k, xget ph' 170 k = xget ph 170 k := fun k => xget_at (ho 170 (by decide)) k
  refine ⟨W, P, T, U2, C, ⟨(hf 4).trans f1, (hf 5).trans f2, (hf 6).trans f3, (hf 27).trans f4, (hf 7).trans f5⟩, ⟨b1, b2, b3, b4⟩, xgr_eq b1 b2 (fun k _ => xget_at (ho 174 (by decide)) _) g1, fun k hk => xgr_cp (off := 41 * (k + 1)) b1 b2 (fun c hc => ?_) (hrow (k + 1) (by omega) W P T f1 f2 f3 b1 b2), fun i hi z hz hz0 => ?_⟩
  · rw [hs (41 * k + c) (by omega)]
    exact congrArg (xget ph 183) (by omega)
  · obtain ⟨K, k1, k2, k3⟩ := g3 i hi z (xgb_eq (ho 198 (by decide)) hz) hz0
    exact ⟨K, (xget_at (ho 199 (by decide)) i).trans k1, k2, fun e => xgr_eq b1 b2 (fun c _ => xget_at (ho 200 (by decide)) _) (k3 e)⟩
set_option maxRecDepth 6000 in
theorem xadds {E : pm_H → Prop} (hE : xHE xX xgA_VR xgF_VR E) {m : Int} {D n : Nat} {ph : pm_H} {y U : Int32} (hP : xH xX kK m 0 ph) (g9 : E ph) (hI : xINV n ph) (q27 : xget ph 170 27 = some (.int U)) (hr : xrowG ph 183 (41 * U.toInt.toNat)) : ∃ v ph', pm_Rd kK false (D + 1) 239 [.ref 170, .int y] ph (v, ph', 0, 0) ∧ (v = some (.int y) ∧ xH xX kK m 0 ph' ∧ xINV n ph' ∧ E ph') := by
  obtain ⟨U9, r1, r2, r3⟩ := xM_fi (k := 27) hP rfl
  have eU := xget_int r1 q27
  subst eU
  have hu0 : 0 ≤ U9.toInt := r2
  have hu1 : U9.toInt ≤ 15 := r3
  refine xRd_mk (nl := 3) rfl rfl ?_
  show xGT kK D 239 _ (0, [some (.ref 170), some (.int y), none], [], ph, 0, 0)
  refine gt_load (v := .ref 170) (n := 1) (ykc_239 (e := (2, .aload_n kF0, 0)) rfl) rfl rfl ?_
  refine gt_alu (st' := [.ref 170, .ref 170]) (ykc_239 (e := (0, .dup, 0)) rfl) rfl rfl ?_
  refine gt_gfk (v := .int U9) (ykc_239 (e := (5, .getfield 188, 0)) rfl) rfl hP q27 rfl ?_
  refine gt_alu (st' := [.int (Int32.ofInt 1), .int U9, .ref 170]) (ykc_239 (e := (0, .iconst 1, 0)) rfl) rfl rfl ?_
  obtain ⟨y1, e_y1, h_y1⟩ : ∃ zq : Int32, U9 + (Int32.ofInt 1) = zq ∧ zq.toInt = U9.toInt + 1 := ⟨_, rfl, by rw [ti_add (by rw [xi1]; omega) (by rw [xi1]; omega), xi1]⟩
  refine gt_alu (st' := [.int y1, .ref 170]) (ykc_239 (e := (0, .iadd, 0)) rfl) (by rw [← e_y1]; exact rfl) rfl ?_
  by_cases hlt : U9.toInt < 15
  · refine gt_pf (y := y1) (ykc_239 (e := (5, .putfield 188, 0)) rfl) rfl hP rfl rfl (by show 0 ≤ y1.toInt; omega) (by show y1.toInt ≤ 15; omega) rfl (fun ph101 hP101 u101 => ?_)
    refine gt_load (v := .ref 170) (n := 1) (ykc_239 (e := (2, .aload_n kF0, 0)) rfl) rfl rfl ?_
    refine gt_gfk (v := .int y1) (ykc_239 (e := (5, .getfield 188, 0)) rfl) rfl hP101 u101.1 rfl ?_
    refine gt_push (v := .int ((Int8.ofInt 15).toInt32)) (n := 2) (ykc_239 (e := (1, .bipush 15, 0)) rfl) rfl rfl ?_
    refine gt_ile_t (ykc_239 (e := (4, .if_icmp .le 43, 59)) rfl) (by rw [x15]; omega) ?_
    refine gt_load (v := .int y) (n := 1) (ykc_239 (e := (2, .iload_n kF1, 0)) rfl) rfl rfl ?_
    refine gt_ret (ykc_239 (e := (7, .ireturn, 0)) rfl) rfl ?_
    refine ⟨rfl, hP101, xINV_27r hI u101 (fun k hk => ?_), xu1_E hE u101 rfl rfl rfl g9⟩
    by_cases e : k = U9.toInt.toNat
    · subst e
      exact hr
    · exact xINV_row hI q27 (by omega)
  · have hU15 : U9.toInt = 15 := by omega
    obtain ⟨fl0, fts, hat0, -, -⟩ := xM_at hP
    have hv0 : fl0[27]? = some (.int U9) := by
      have g := q27
      unfold xget at g
      rw [hat0] at g
      exact g
    have hk27 : 27 < fl0.length := (List.getElem?_eq_some_iff.mp hv0).1
    have h28 : fl0[28]? = some (.ref 183) := by
      have g := xM_fr (k := 28) (A := 183) hP rfl rfl
      unfold xget at g
      rw [hat0] at g
      exact g
    obtain ⟨l0, hat183, hlen, hel⟩ := xA_at (A := 183) hP rfl rfl
    refine gt_pfraw (ykc_239 (e := (5, .putfield 188, 0)) rfl) rfl hat0 rfl hk27 rfl (fun ph1 hat1 hO1 => ?_)
    have h27 : (fl0.set 27 (.int y1))[27]? = some (.int y1) := List.getElem?_set_self hk27
    refine gt_load (v := .ref 170) (n := 1) (ykc_239 (e := (2, .aload_n kF0, 0)) rfl) rfl rfl ?_
    refine gt_gfraw (ykc_239 (e := (5, .getfield 188, 0)) rfl) rfl hat1 h27 rfl ?_
    refine gt_push (v := .int ((Int8.ofInt 15).toInt32)) (n := 2) (ykc_239 (e := (1, .bipush 15, 0)) rfl) rfl rfl ?_
    refine gt_ile_f (ykc_239 (e := (4, .if_icmp .le 43, 59)) rfl) (by rw [x15]; omega) rfl ?_
    refine gt_alu (st' := [.int (Int32.ofInt 0)]) (ykc_239 (e := (0, .iconst 0, 0)) rfl) rfl rfl ?_
    refine gt_store (L' := [some (.ref 170), some (.int y), some (.int (Int32.ofInt 0))]) (st' := []) (n := 1) (ykc_239 (e := (3, .istore_n kF2, 0)) rfl) rfl rfl ?_
    refine xadd_loop (phS := ph1) hlen ((List.getElem?_set_ne (by decide)).trans h28) (fun ph' l x a1 a2 a3 a4 a5 => ?_) 616 0 _ l0 ph1 (by omega) (by omega) (by decide) hat1 ((hO1 183 (by decide)).trans hat183) hlen (fun k => by rw [if_neg (by omega)]) (fun _ _ => rfl)
    · refine gt_load (v := .ref 170) (n := 1) (ykc_239 (e := (2, .aload_n kF0, 0)) rfl) rfl rfl ?_
      refine gt_alu (st' := [.ref 170, .ref 170]) (ykc_239 (e := (0, .dup, 0)) rfl) rfl rfl ?_
      refine gt_gfraw (ykc_239 (e := (5, .getfield 188, 0)) rfl) rfl a1 h27 rfl ?_
      refine gt_alu (st' := [.int (Int32.ofInt 1), .int y1, .ref 170]) (ykc_239 (e := (0, .iconst 1, 0)) rfl) rfl rfl ?_
      obtain ⟨y3, e_y3, h_y3⟩ : ∃ zq : Int32, y1 - Int32.ofInt 1 = zq ∧ zq.toInt = y1.toInt - 1 := ⟨_, rfl, by rw [ti_sub (by rw [xi1]; omega) (by rw [xi1]; omega), xi1]⟩
      refine gt_alu (st' := [.int y3, .ref 170]) (ykc_239 (e := (0, .isub, 0)) rfl) (by rw [← e_y3]; rfl) rfl ?_
      refine gt_pfraw (ykc_239 (e := (5, .putfield 188, 0)) rfl) rfl a1 rfl (by rw [List.length_set]; exact hk27) rfl (fun phF hF1 hF2 => ?_)
      refine gt_load (v := .int y) (n := 1) (ykc_239 (e := (2, .iload_n kF1, 0)) rfl) rfl rfl ?_
      refine gt_ret (ykc_239 (e := (7, .ireturn, 0)) rfl) rfl ?_
      have ey : y3 = U9 := Int32.toInt_inj.mp (by omega)
      subst ey
      have hfl : (fl0.set 27 (.int y1)).set 27 (.int y3) = fl0 := by
        apply List.ext_getElem?
        intro k
        by_cases e : k = 27
        · subst e
          rw [List.getElem?_set_self (by rw [List.length_set]; exact hk27), hv0]
        · rw [List.getElem?_set_ne (Ne.symm e), List.getElem?_set_ne (Ne.symm e)]
      have hO : ∀ a, a ≠ 183 → pm_at phF a = pm_at ph a := fun a ha => by
        by_cases e : a = 170
        · subst e
          rw [hF1, hfl, hat0]
        · rw [hF2 a e, a5 a ha, hO1 a e]
      have h183 : pm_at phF 183 = some (.inl (0, .inl l)) := (hF2 183 (by decide)).trans a2
      have hPS : xH xX kK m 0 (ph.set 183 (.inl (0, .inl l))) := xH_set (i := 13) (t := .inl (0, 656, 41, _, 0)) hP rfl rfl ⟨l, xat_self hat183, a3, fun k z hk => by
        rw [a4 k] at hk
        by_cases e : k < 615
        · rw [if_pos e] at hk
          have g := hel (k + 41) z hk
          rw [show (k + 41) % 41 = k % 41 by omega] at g
          exact g
        · rw [if_neg e] at hk
          exact hel k z hk⟩
      have hPF : xH xX kK m 0 phF := xH_eq (fun a => by
        by_cases e : a = 183
        · subst e
          rw [h183, xat_self hat183]
        · rw [hO a e, xat_ne e]) hPS
      have hs : ∀ k, k < 615 → xget phF 183 k = xget ph 183 (k + 41) := fun k hk => by
        unfold xget
        rw [h183, hat183]
        show (l[k]?).map Value.int = (l0[k + 41]?).map Value.int
        rw [a4 k, if_pos hk]
      refine ⟨rfl, hPF, xINV_shift hI q27 hU15 (by rw [hU15] at hr; exact hr) hO hs, hE ph phF ⟨fun a i ha hi => ?_, fun a i k ha hi => ?_⟩ g9⟩
      · refine (hO a (fun e => ?_)).symm
        subst e
        have ha : xown 183 = some i := ha
        rw [show xown 183 = some 13 from rfl] at ha
        cases ha
        exact absurd hi (by decide)
      · refine (xget_at (hO a (fun e => ?_)) k).symm
        subst e
        have ha : xown 183 = some i := ha
        rw [show xown 183 = some 13 from rfl] at ha
        cases ha
        have h2 : (13, k) ∈ xgF_VR := hi
        unfold xgF_VR at h2
        simp at h2
end
section
/-! counted, faces, steps, trims, puts of the reference, by hand, printed by wip/x/h_writers.py -/
set_option maxRecDepth 6000 in
theorem xHE_rowG {gA : List Nat} {gF : List (Nat × Nat)} {a i off : Nat} (ho : xown a = some i) (hA : xmemN gA i = true) (h4 : xmemP gF 0 4 = true) (h5 : xmemP gF 0 5 = true) (h6 : xmemP gF 0 6 = true) : xHE xX gA gF (fun p => xrowG p a off) := fun p p' hs g W P T h1 h2 h3 b1 b2 => xgr_eq b1 b2 (fun _ _ => xget_at (hs.1 a i ho (xmemN_in hA)).symm _) (g W P T ((hs.2 170 0 4 rfl (xmemP_in h4)).trans h1) ((hs.2 170 0 5 rfl (xmemP_in h5)).trans h2) ((hs.2 170 0 6 rfl (xmemP_in h6)).trans h3) b1 b2)
set_option maxRecDepth 6000 in
theorem xSt_HE {E : pm_H → Prop} {gA : List Nat} {gF : List (Nat × Nat)} (hE : xHE xX gA gF E) (h1 : xmemN gA 4 = false) (h2 : ∀ k, xmemP gF 4 k = false) : xSt E := fun ph l k y _ _ h => hE ph _ ⟨fun a i ho hi => (xat_ne fun e => by
  subst e
  have ho : xown 174 = some i := ho
  rw [show xown 174 = some 4 from rfl] at ho
  cases ho
  exact absurd hi (xmemN_ok h1)).symm, fun a i c ho hi => (xget_ne fun e => by
  subst e
  have ho : xown 174 = some i := ho
  rw [show xown 174 = some 4 from rfl] at ho
  cases ho
  exact absurd hi (xmemP_ok (h2 c))).symm⟩ h
set_option maxRecDepth 6000 in
theorem xSt_and {E F : pm_H → Prop} (h1 : xSt E) (h2 : xSt F) : xSt (fun p => E p ∧ F p) := fun ph l k y a b h => ⟨h1 ph l k y a b h.1, h2 ph l k y a b h.2⟩
/-- between putsBy and adds -/
def xIR (R : pm_H → Prop) (n u : Nat) (U : Int32) : pm_H → Prop := fun p => ((xV p ∧ R p) ∧ xINV n p) ∧ (xrowG p 183 (41 * u) ∧ xget p 170 27 = some (.int U))
def xgA_U : List Nat := [13]
def xgF_U : List (Nat × Nat) := [(0, 4), (0, 5), (0, 6), (0, 27)]
set_option maxRecDepth 6000 in
theorem xHEU {u : Nat} {U : Int32} : xHE xX xgA_U xgF_U (fun p => xrowG p 183 (41 * u) ∧ xget p 170 27 = some (.int U)) := xHE_and (xHE_rowG (i := 13) rfl rfl rfl rfl rfl) (xHE_g rfl)
set_option maxRecDepth 6000 in
theorem xIR_St {R : pm_H → Prop} (hR : xHE xX xgA_VR xgF_VR R) {n u : Nat} {U : Int32} : xSt (xIR R n u U) := xSt_and (xSt_and (xSt_HE (xHE_and xHEVR hR) rfl (fun _ => rfl)) (xINV_St n)) (xSt_HE xHEU rfl (fun _ => rfl))

set_option maxRecDepth 6000 in
theorem xHIR_G8 {R : pm_H → Prop} (hR : xHE xX xgA_VR xgF_VR R) {n u : Nat} {U : Int32} : xHE xX xgA_G8 xgF_G8 (xIR R n u U) := xHE_and (xHE_and (xHE_sub (by decide +kernel) (by decide +kernel) (xHE_and xHEVR hR)) (xHE_sub (by decide +kernel) (by decide +kernel) (xHEI n))) (xHE_sub (by decide +kernel) (by decide +kernel) xHEU)
set_option maxRecDepth 6000 in
theorem xHIR_G80 {R : pm_H → Prop} (hR : xHE xX xgA_VR xgF_VR R) {n u : Nat} {U : Int32} : xHE xX xgA_G80 xgF_G80 (xIR R n u U) := xHE_and (xHE_and (xHE_sub (by decide +kernel) (by decide +kernel) (xHE_and xHEVR hR)) (xHE_sub (by decide +kernel) (by decide +kernel) (xHEI n))) (xHE_sub (by decide +kernel) (by decide +kernel) xHEU)
set_option maxRecDepth 6000 in
theorem xHIR_G83 {R : pm_H → Prop} (hR : xHE xX xgA_VR xgF_VR R) {n u : Nat} {U : Int32} : xHE xX xgA_G83 xgF_G83 (xIR R n u U) := xHE_and (xHE_and (xHE_sub (by decide +kernel) (by decide +kernel) (xHE_and xHEVR hR)) (xHE_sub (by decide +kernel) (by decide +kernel) (xHEI n))) (xHE_sub (by decide +kernel) (by decide +kernel) xHEU)
set_option maxRecDepth 6000 in
theorem xHIR_G84 {R : pm_H → Prop} (hR : xHE xX xgA_VR xgF_VR R) {n u : Nat} {U : Int32} : xHE xX xgA_G84 xgF_G84 (xIR R n u U) := xHE_and (xHE_and (xHE_sub (by decide +kernel) (by decide +kernel) (xHE_and xHEVR hR)) (xHE_sub (by decide +kernel) (by decide +kernel) (xHEI n))) (xHE_sub (by decide +kernel) (by decide +kernel) xHEU)
set_option maxRecDepth 6000 in
theorem xHIR_G92 {R : pm_H → Prop} (hR : xHE xX xgA_VR xgF_VR R) {n u : Nat} {U : Int32} : xHE xX xgA_G92 xgF_G92 (xIR R n u U) := xHE_and (xHE_and (xHE_sub (by decide +kernel) (by decide +kernel) (xHE_and xHEVR hR)) (xHE_sub (by decide +kernel) (by decide +kernel) (xHEI n))) (xHE_sub (by decide +kernel) (by decide +kernel) xHEU)
set_option maxRecDepth 6000 in
theorem xINV_puts {n : Nat} {ph ph' : pm_H} {U : Int32} (h : xINV n ph) (q : xget ph 170 27 = some (.int U)) (c : xcp ph ph' 183 (41 * U.toInt.toNat) 174 0 41) : xINV n ph' ∧ xrowG ph' 183 (41 * U.toInt.toNat) ∧ xget ph' 170 27 = some (.int U) := by
  obtain ⟨W, P, T, U2, C, ⟨f1, f2, f3, f4, f5⟩, ⟨b1, b2, b3, b4⟩, g1, g2, g3⟩ := h
  have e9 := xget_int f4 q
  subst e9
  have hf : ∀ k, xget ph' 170 k = xget ph 170 k := fun k => c.2.1 170 k (fun q => absurd q.1 (by decide))
  have ha : ∀ a, a ≠ 183 → pm_at ph' a = pm_at ph a := c.2.2
  refine ⟨⟨W, P, T, U2, C, ⟨(hf 4).trans f1, (hf 5).trans f2, (hf 6).trans f3, (hf 27).trans f4, (hf 7).trans f5⟩, ⟨b1, b2, b3, b4⟩, xgr_eq b1 b2 (fun k _ => xget_at (ha 174 (by decide)) _) g1, fun k hk => xgr_eq b1 b2 (fun c2 hc2 => c.2.1 183 _ (fun q => by obtain ⟨-, q1, q2⟩ := q; omega)) (g2 k hk), fun i hi z hz hz0 => ?_⟩, ?_, (hf 27).trans f4⟩
  · obtain ⟨K, k1, k2, k3⟩ := g3 i hi z (xgb_eq (ha 198 (by decide)) hz) hz0
    exact ⟨K, (xget_at (ha 199 (by decide)) i).trans k1, k2, fun e => xgr_eq b1 b2 (fun c _ => xget_at (ha 200 (by decide)) _) (k3 e)⟩
  · intro W2 P2 T2 h1 h2 h3 _ _
    have e1 := xget_int ((hf 4).trans f1) h1
    have e2 := xget_int ((hf 5).trans f2) h2
    have e3 := xget_int ((hf 6).trans f3) h3
    subst e1 e2 e3
    exact xgr_cp b1 b2 c.1 g1

set_option maxRecDepth 6000 in
theorem xcounted {R : pm_H → Prop} (hR : xHE xX xgA_VR xgF_VR R) {m : Int} {D n u : Nat} (hD : 2 ≤ D) {ph : pm_H} {y U : Int32} (hP : xH xX kK m 0 ph) (g9 : xIR R n u U ph) (hu : u = U.toInt.toNat) : ∃ v ph', pm_Rd kK false D 240 [.ref 170, .int y] ph (v, ph', 0, 0) ∧ (v = some (.int y) ∧ xH xX kK m 0 ph' ∧ xINV n ph' ∧ xV ph' ∧ R ph') := by
  obtain ⟨D', rfl⟩ : ∃ D', D = D' + 1 + 1 := ⟨D - 2, by omega⟩
  have hEVR := xHE_and xHEVR hR
  refine xRd_mk (nl := 2) rfl rfl ?_
  show xGT kK (D' + 1) 240 _ (0, [some (.ref 170), some (.int y)], [], ph, 0, 0)
  by_cases hy : y.toInt < 0
  · refine gt_load (v := .int y) (n := 1) (ykc_240 (e := (2, .iload_n kF1, 0)) rfl) rfl rfl ?_
    refine gt_zge_f (ykc_240 (e := (4, .ifCond .ge 7, 8)) rfl) hy rfl ?_
    refine gt_load (v := .int y) (n := 1) (ykc_240 (e := (2, .iload_n kF1, 0)) rfl) rfl rfl ?_
    refine gt_br (pc' := 13) (st' := [.int y]) (ykc_240 (e := (4, .goto 8, 13)) rfl) rfl ?_
    refine gt_ret (ykc_240 (e := (7, .ireturn, 0)) rfl) rfl ?_
    exact ⟨rfl, hP, g9.1.2, g9.1.1⟩
  · refine gt_load (v := .int y) (n := 1) (ykc_240 (e := (2, .iload_n kF1, 0)) rfl) rfl rfl ?_
    refine gt_zge_t (ykc_240 (e := (4, .ifCond .ge 7, 8)) rfl) (by omega) ?_
    refine gt_load (v := .ref 170) (n := 1) (ykc_240 (e := (2, .aload_n kF0, 0)) rfl) rfl rfl ?_
    refine gt_load (v := .int y) (n := 1) (ykc_240 (e := (2, .iload_n kF1, 0)) rfl) rfl rfl ?_
    refine gt_cv (n := 1) (as := [.ref 170, .int y]) (r := []) (ykc_240 (e := (6, .invokevirtual 341, 0)) rfl) rfl hP rfl rfl rfl (xadds (D := D') hEVR hP g9.1.1 g9.1.2 g9.2.2 (hu ▸ g9.2.1)) rfl (fun vv ph101 hv => ?_)
    obtain ⟨e9, hP2, i2, g2⟩ := hv; subst e9
    change xGT kK (D' + 1) 240 _ (13, [some (.ref 170), some (.int y)], [.int y], ph101, 0, 0)
    refine gt_ret (ykc_240 (e := (7, .ireturn, 0)) rfl) rfl ?_
    exact ⟨rfl, hP2, i2, g2⟩

set_option maxRecDepth 6000 in
theorem xone_faces {E : pm_H → Prop} (hE : xHE xX xgA_G84 xgF_G84 E) {m : Int} (hm : m ≤ 2147483646) (h0m : (0 : Int) ≤ m) {D : Nat} (hD : 3 ≤ D) {ph : pm_H} {p q : Int32} (hP : xH xX kK m 0 ph) (g9 : E ph) : ∃ v ph', pm_Rd kK false D 244 [.ref 170, .ref 174, .int p, .int q] ph (v, ph', 0, 0) ∧ (∃ r : Int32, v = some (.int r) ∧ xH xX kK m 0 ph' ∧ E ph') := by
  obtain ⟨v, ph', k1, k2, k3, ⟨u, e, z, e2, -⟩, -⟩ := (xn_343_0 hE) D hD m hm h0m [.ref 170, .ref 174, .int p, .int q] ph ⟨xaRi rfl (by decide), xaRi rfl (by decide), xaT, xaT, trivial⟩ xF0 hP g9
  exact ⟨v, ph', k1, z, by rw [e, e2], k2, k3⟩
set_option maxRecDepth 6000 in
theorem xw_faces {R : pm_H → Prop} (hR : xHE xX xgA_VR xgF_VR R) {m : Int} (hm : m ≤ 2147483646) (h0m : (0 : Int) ≤ m) {D n : Nat} (hD : 20 ≤ D) {ph : pm_H} {p q : Int32} (hP : xH xX kK m 0 ph) (hV : xV ph) (hI : xINV n ph) (hr : R ph) : ∃ v ph', pm_Rd kK false D 249 [.ref 170, .int p, .int q] ph (v, ph', 0, 0) ∧ (∃ r : Int32, v = some (.int r) ∧ xH xX kK m 0 ph' ∧ xV ph' ∧ xINV n ph' ∧ R ph') := by
  obtain ⟨D', rfl⟩ : ∃ D', D = D' + 1 + 1 := ⟨D - 2, by omega⟩
  have hEVR := xHE_and xHEVR hR
  refine xRd_mk (nl := 3) rfl rfl ?_
  show xGT kK (D' + 1) 249 _ (0, [some (.ref 170), some (.int p), some (.int q)], [], ph, 0, 0)
  refine gt_load (v := .ref 170) (n := 1) (ykc_249 (e := (2, .aload_n kF0, 0)) rfl) rfl rfl ?_
  refine gt_alu (st' := [.int (Int32.ofInt 0), .ref 170]) (ykc_249 (e := (0, .iconst 0, 0)) rfl) rfl rfl ?_
  refine gt_pf (y := Int32.ofInt 0) (ykc_249 (e := (5, .putfield 3, 0)) rfl) rfl hP rfl rfl (by decide) (by decide) rfl (fun ph1 hP1 u1 => ?_)
  have g1 : xV ph1 ∧ R ph1 := xu1_E hEVR u1 rfl rfl rfl ⟨hV, hr⟩
  have i1 : xINV n ph1 := xu1_E (xHEI n) u1 rfl rfl rfl hI
  obtain ⟨U, q27, hU0, hU1⟩ := xM_fi (k := 27) hP1 rfl
  have hU0 : 0 ≤ U.toInt := hU0
  have hU1 : U.toInt ≤ 15 := hU1
  refine gt_load (v := .ref 170) (n := 1) (ykc_249 (e := (2, .aload_n kF0, 0)) rfl) rfl rfl ?_
  refine gt_cv (n := 0) (as := [.ref 170]) (r := []) (ykc_249 (e := (6, .invokevirtual 363, 0)) rfl) rfl hP1 rfl rfl rfl (xputsBy (D := D') hEVR rfl (fun _ => rfl) (u := U.toInt.toNat) (by omega) (by omega) q27 hP1 g1) rfl (fun vv ph2 hv => ?_)
  obtain ⟨e9, hP2, g2, c2⟩ := hv; subst e9
  change xGT kK (D' + 1) 249 _ (9, [some (.ref 170), some (.int p), some (.int q)], [], ph2, 0, 0)
  obtain ⟨i2, r2, q2⟩ := xINV_puts i1 q27 c2
  have g2x : xIR R n U.toInt.toNat U ph2 := ⟨⟨g2, i2⟩, r2, q2⟩
  refine gt_load (v := .ref 170) (n := 1) (ykc_249 (e := (2, .aload_n kF0, 0)) rfl) rfl rfl ?_
  refine gt_load (v := .ref 170) (n := 1) (ykc_249 (e := (2, .aload_n kF0, 0)) rfl) rfl rfl ?_
  refine gt_load (v := .ref 170) (n := 1) (ykc_249 (e := (2, .aload_n kF0, 0)) rfl) rfl rfl ?_
  refine gt_gfr (A := 174) (ykc_249 (e := (5, .getfield 41, 0)) rfl) rfl hP2 rfl rfl rfl ?_
  refine gt_load (v := .int p) (n := 1) (ykc_249 (e := (2, .iload_n kF1, 0)) rfl) rfl rfl ?_
  refine gt_load (v := .int q) (n := 1) (ykc_249 (e := (2, .iload_n kF2, 0)) rfl) rfl rfl ?_
  refine gt_cv (n := 3) (as := [.ref 170, .ref 174, .int p, .int q]) (r := [.ref 170]) (ykc_249 (e := (6, .invokevirtual 377, 0)) rfl) rfl hP2 rfl rfl rfl (xone_faces (xHIR_G84 hR) hm h0m (by omega) hP2 g2x) rfl (fun vv ph3 hv => ?_)
  obtain ⟨r1, e9, hP3, g3⟩ := hv; subst e9
  change xGT kK (D' + 1) 249 _ (20, [some (.ref 170), some (.int p), some (.int q)], [.int r1, .ref 170], ph3, 0, 0)
  refine gt_cv (n := 1) (as := [.ref 170, .int r1]) (r := []) (ykc_249 (e := (6, .invokevirtual 380, 0)) rfl) rfl hP3 rfl rfl rfl (xcounted hR (by omega) hP3 g3 rfl) rfl (fun vv ph4 hv => ?_)
  obtain ⟨e9, hP4, i4, g4⟩ := hv; subst e9
  change xGT kK (D' + 1) 249 _ (23, [some (.ref 170), some (.int p), some (.int q)], [.int r1], ph4, 0, 0)
  refine gt_ret (ykc_249 (e := (7, .ireturn, 0)) rfl) rfl ?_
  exact ⟨r1, rfl, hP4, g4.1, i4, g4.2⟩

set_option maxRecDepth 6000 in
theorem xone_steps {E : pm_H → Prop} (hE : xHE xX xgA_G8 xgF_G8 E) (hS : xSt E) {m : Int} (hm : m ≤ 2147483646) (h0m : (0 : Int) ≤ m) {D : Nat} (hD : 3 ≤ D) {ph : pm_H} {p q : Int32} (hP : xH xX kK m 0 ph) (g9 : E ph) : ∃ v ph', pm_Rd kK false D 245 [.ref 170, .ref 174, .int p, .int q] ph (v, ph', 0, 0) ∧ (∃ r : Int32, v = some (.int r) ∧ xH xX kK m 0 ph' ∧ E ph') := by
  obtain ⟨v, ph', k1, k2, k3, ⟨u, e, z, e2, -⟩, -⟩ := (xn_344_0 hE hS) D hD m hm h0m [.ref 170, .ref 174, .int p, .int q] ph ⟨xaRi rfl (by decide), xaRi rfl (by decide), xaT, xaT, trivial⟩ xF0 hP g9
  exact ⟨v, ph', k1, z, by rw [e, e2], k2, k3⟩
set_option maxRecDepth 6000 in
theorem xw_steps {R : pm_H → Prop} (hR : xHE xX xgA_VR xgF_VR R) {m : Int} (hm : m ≤ 2147483646) (h0m : (0 : Int) ≤ m) {D n : Nat} (hD : 20 ≤ D) {ph : pm_H} {p q : Int32} (hP : xH xX kK m 0 ph) (hV : xV ph) (hI : xINV n ph) (hr : R ph) : ∃ v ph', pm_Rd kK false D 250 [.ref 170, .int p, .int q] ph (v, ph', 0, 0) ∧ (∃ r : Int32, v = some (.int r) ∧ xH xX kK m 0 ph' ∧ xV ph' ∧ xINV n ph' ∧ R ph') := by
  obtain ⟨D', rfl⟩ : ∃ D', D = D' + 1 + 1 := ⟨D - 2, by omega⟩
  have hEVR := xHE_and xHEVR hR
  refine xRd_mk (nl := 3) rfl rfl ?_
  show xGT kK (D' + 1) 250 _ (0, [some (.ref 170), some (.int p), some (.int q)], [], ph, 0, 0)
  refine gt_load (v := .ref 170) (n := 1) (ykc_250 (e := (2, .aload_n kF0, 0)) rfl) rfl rfl ?_
  refine gt_alu (st' := [.int (Int32.ofInt 0), .ref 170]) (ykc_250 (e := (0, .iconst 0, 0)) rfl) rfl rfl ?_
  refine gt_pf (y := Int32.ofInt 0) (ykc_250 (e := (5, .putfield 3, 0)) rfl) rfl hP rfl rfl (by decide) (by decide) rfl (fun ph1 hP1 u1 => ?_)
  have g1 : xV ph1 ∧ R ph1 := xu1_E hEVR u1 rfl rfl rfl ⟨hV, hr⟩
  have i1 : xINV n ph1 := xu1_E (xHEI n) u1 rfl rfl rfl hI
  obtain ⟨U, q27, hU0, hU1⟩ := xM_fi (k := 27) hP1 rfl
  have hU0 : 0 ≤ U.toInt := hU0
  have hU1 : U.toInt ≤ 15 := hU1
  refine gt_load (v := .ref 170) (n := 1) (ykc_250 (e := (2, .aload_n kF0, 0)) rfl) rfl rfl ?_
  refine gt_cv (n := 0) (as := [.ref 170]) (r := []) (ykc_250 (e := (6, .invokevirtual 363, 0)) rfl) rfl hP1 rfl rfl rfl (xputsBy (D := D') hEVR rfl (fun _ => rfl) (u := U.toInt.toNat) (by omega) (by omega) q27 hP1 g1) rfl (fun vv ph2 hv => ?_)
  obtain ⟨e9, hP2, g2, c2⟩ := hv; subst e9
  change xGT kK (D' + 1) 250 _ (9, [some (.ref 170), some (.int p), some (.int q)], [], ph2, 0, 0)
  obtain ⟨i2, r2, q2⟩ := xINV_puts i1 q27 c2
  have g2x : xIR R n U.toInt.toNat U ph2 := ⟨⟨g2, i2⟩, r2, q2⟩
  refine gt_load (v := .ref 170) (n := 1) (ykc_250 (e := (2, .aload_n kF0, 0)) rfl) rfl rfl ?_
  refine gt_load (v := .ref 170) (n := 1) (ykc_250 (e := (2, .aload_n kF0, 0)) rfl) rfl rfl ?_
  refine gt_load (v := .ref 170) (n := 1) (ykc_250 (e := (2, .aload_n kF0, 0)) rfl) rfl rfl ?_
  refine gt_gfr (A := 174) (ykc_250 (e := (5, .getfield 41, 0)) rfl) rfl hP2 rfl rfl rfl ?_
  refine gt_load (v := .int p) (n := 1) (ykc_250 (e := (2, .iload_n kF1, 0)) rfl) rfl rfl ?_
  refine gt_load (v := .int q) (n := 1) (ykc_250 (e := (2, .iload_n kF2, 0)) rfl) rfl rfl ?_
  refine gt_cv (n := 3) (as := [.ref 170, .ref 174, .int p, .int q]) (r := [.ref 170]) (ykc_250 (e := (6, .invokevirtual 383, 0)) rfl) rfl hP2 rfl rfl rfl (xone_steps (xHIR_G8 hR) (xIR_St hR) hm h0m (by omega) hP2 g2x) rfl (fun vv ph3 hv => ?_)
  obtain ⟨r1, e9, hP3, g3⟩ := hv; subst e9
  change xGT kK (D' + 1) 250 _ (20, [some (.ref 170), some (.int p), some (.int q)], [.int r1, .ref 170], ph3, 0, 0)
  refine gt_cv (n := 1) (as := [.ref 170, .int r1]) (r := []) (ykc_250 (e := (6, .invokevirtual 380, 0)) rfl) rfl hP3 rfl rfl rfl (xcounted hR (by omega) hP3 g3 rfl) rfl (fun vv ph4 hv => ?_)
  obtain ⟨e9, hP4, i4, g4⟩ := hv; subst e9
  change xGT kK (D' + 1) 250 _ (23, [some (.ref 170), some (.int p), some (.int q)], [.int r1], ph4, 0, 0)
  refine gt_ret (ykc_250 (e := (7, .ireturn, 0)) rfl) rfl ?_
  exact ⟨r1, rfl, hP4, g4.1, i4, g4.2⟩

set_option maxRecDepth 6000 in
theorem xone_trims {E : pm_H → Prop} (hE : xHE xX xgA_G80 xgF_G80 E) {m : Int} (hm : m ≤ 2147483646) (h0m : (0 : Int) ≤ m) {D : Nat} (hD : 3 ≤ D) {ph : pm_H} {p q : Int32} (hP : xH xX kK m 0 ph) (g9 : E ph) : ∃ v ph', pm_Rd kK false D 246 [.ref 170, .int p, .int q] ph (v, ph', 0, 0) ∧ (∃ r : Int32, v = some (.int r) ∧ xH xX kK m 0 ph' ∧ E ph') := by
  obtain ⟨v, ph', k1, k2, k3, ⟨u, e, z, e2, -⟩, -⟩ := (xn_246_0 hE) D hD m hm h0m [.ref 170, .int p, .int q] ph ⟨xaRi rfl (by decide), xaT, xaT, trivial⟩ xF0 hP g9
  exact ⟨v, ph', k1, z, by rw [e, e2], k2, k3⟩
set_option maxRecDepth 6000 in
theorem xw_trims {R : pm_H → Prop} (hR : xHE xX xgA_VR xgF_VR R) {m : Int} (hm : m ≤ 2147483646) (h0m : (0 : Int) ≤ m) {D n : Nat} (hD : 20 ≤ D) {ph : pm_H} {p q : Int32} (hP : xH xX kK m 0 ph) (hV : xV ph) (hI : xINV n ph) (hr : R ph) : ∃ v ph', pm_Rd kK false D 251 [.ref 170, .int p, .int q] ph (v, ph', 0, 0) ∧ (∃ r : Int32, v = some (.int r) ∧ xH xX kK m 0 ph' ∧ xV ph' ∧ xINV n ph' ∧ R ph') := by
  obtain ⟨D', rfl⟩ : ∃ D', D = D' + 1 + 1 := ⟨D - 2, by omega⟩
  have hEVR := xHE_and xHEVR hR
  refine xRd_mk (nl := 3) rfl rfl ?_
  show xGT kK (D' + 1) 251 _ (0, [some (.ref 170), some (.int p), some (.int q)], [], ph, 0, 0)
  refine gt_load (v := .ref 170) (n := 1) (ykc_251 (e := (2, .aload_n kF0, 0)) rfl) rfl rfl ?_
  refine gt_alu (st' := [.int (Int32.ofInt 0), .ref 170]) (ykc_251 (e := (0, .iconst 0, 0)) rfl) rfl rfl ?_
  refine gt_pf (y := Int32.ofInt 0) (ykc_251 (e := (5, .putfield 3, 0)) rfl) rfl hP rfl rfl (by decide) (by decide) rfl (fun ph1 hP1 u1 => ?_)
  have g1 : xV ph1 ∧ R ph1 := xu1_E hEVR u1 rfl rfl rfl ⟨hV, hr⟩
  have i1 : xINV n ph1 := xu1_E (xHEI n) u1 rfl rfl rfl hI
  obtain ⟨U, q27, hU0, hU1⟩ := xM_fi (k := 27) hP1 rfl
  have hU0 : 0 ≤ U.toInt := hU0
  have hU1 : U.toInt ≤ 15 := hU1
  refine gt_load (v := .ref 170) (n := 1) (ykc_251 (e := (2, .aload_n kF0, 0)) rfl) rfl rfl ?_
  refine gt_cv (n := 0) (as := [.ref 170]) (r := []) (ykc_251 (e := (6, .invokevirtual 363, 0)) rfl) rfl hP1 rfl rfl rfl (xputsBy (D := D') hEVR rfl (fun _ => rfl) (u := U.toInt.toNat) (by omega) (by omega) q27 hP1 g1) rfl (fun vv ph2 hv => ?_)
  obtain ⟨e9, hP2, g2, c2⟩ := hv; subst e9
  change xGT kK (D' + 1) 251 _ (9, [some (.ref 170), some (.int p), some (.int q)], [], ph2, 0, 0)
  obtain ⟨i2, r2, q2⟩ := xINV_puts i1 q27 c2
  have g2x : xIR R n U.toInt.toNat U ph2 := ⟨⟨g2, i2⟩, r2, q2⟩
  refine gt_load (v := .ref 170) (n := 1) (ykc_251 (e := (2, .aload_n kF0, 0)) rfl) rfl rfl ?_
  refine gt_load (v := .ref 170) (n := 1) (ykc_251 (e := (2, .aload_n kF0, 0)) rfl) rfl rfl ?_
  refine gt_load (v := .int p) (n := 1) (ykc_251 (e := (2, .iload_n kF1, 0)) rfl) rfl rfl ?_
  refine gt_load (v := .int q) (n := 1) (ykc_251 (e := (2, .iload_n kF2, 0)) rfl) rfl rfl ?_
  refine gt_cv (n := 2) (as := [.ref 170, .int p, .int q]) (r := [.ref 170]) (ykc_251 (e := (6, .invokevirtual 386, 0)) rfl) rfl hP2 rfl rfl rfl (xone_trims (xHIR_G80 hR) hm h0m (by omega) hP2 g2x) rfl (fun vv ph3 hv => ?_)
  obtain ⟨r1, e9, hP3, g3⟩ := hv; subst e9
  change xGT kK (D' + 1) 251 _ (16, [some (.ref 170), some (.int p), some (.int q)], [.int r1, .ref 170], ph3, 0, 0)
  refine gt_cv (n := 1) (as := [.ref 170, .int r1]) (r := []) (ykc_251 (e := (6, .invokevirtual 380, 0)) rfl) rfl hP3 rfl rfl rfl (xcounted hR (by omega) hP3 g3 rfl) rfl (fun vv ph4 hv => ?_)
  obtain ⟨e9, hP4, i4, g4⟩ := hv; subst e9
  change xGT kK (D' + 1) 251 _ (19, [some (.ref 170), some (.int p), some (.int q)], [.int r1], ph4, 0, 0)
  refine gt_ret (ykc_251 (e := (7, .ireturn, 0)) rfl) rfl ?_
  exact ⟨r1, rfl, hP4, g4.1, i4, g4.2⟩

set_option maxRecDepth 6000 in
theorem xone_puts {E : pm_H → Prop} (hE : xHE xX xgA_G8 xgF_G8 E) (hS : xSt E) {m : Int} (hm : m ≤ 2147483646) (h0m : (0 : Int) ≤ m) {D : Nat} (hD : 3 ≤ D) {ph : pm_H} {p q : Int32} (hP : xH xX kK m 0 ph) (g9 : E ph) : ∃ v ph', pm_Rd kK false D 247 [.ref 170, .int p, .int q] ph (v, ph', 0, 0) ∧ (∃ r : Int32, v = some (.int r) ∧ xH xX kK m 0 ph' ∧ E ph') := by
  obtain ⟨v, ph', k1, k2, k3, ⟨u, e, z, e2, -⟩, -⟩ := (xn_247_0 hE hS) D hD m hm h0m [.ref 170, .int p, .int q] ph ⟨xaRi rfl (by decide), xaT, xaT, trivial⟩ xF0 hP g9
  exact ⟨v, ph', k1, z, by rw [e, e2], k2, k3⟩
set_option maxRecDepth 6000 in
theorem xw_puts {R : pm_H → Prop} (hR : xHE xX xgA_VR xgF_VR R) {m : Int} (hm : m ≤ 2147483646) (h0m : (0 : Int) ≤ m) {D n : Nat} (hD : 20 ≤ D) {ph : pm_H} {p q : Int32} (hP : xH xX kK m 0 ph) (hV : xV ph) (hI : xINV n ph) (hr : R ph) : ∃ v ph', pm_Rd kK false D 252 [.ref 170, .int p, .int q] ph (v, ph', 0, 0) ∧ (∃ r : Int32, v = some (.int r) ∧ xH xX kK m 0 ph' ∧ xV ph' ∧ xINV n ph' ∧ R ph') := by
  obtain ⟨D', rfl⟩ : ∃ D', D = D' + 1 + 1 := ⟨D - 2, by omega⟩
  have hEVR := xHE_and xHEVR hR
  refine xRd_mk (nl := 3) rfl rfl ?_
  show xGT kK (D' + 1) 252 _ (0, [some (.ref 170), some (.int p), some (.int q)], [], ph, 0, 0)
  refine gt_load (v := .ref 170) (n := 1) (ykc_252 (e := (2, .aload_n kF0, 0)) rfl) rfl rfl ?_
  refine gt_alu (st' := [.int (Int32.ofInt 0), .ref 170]) (ykc_252 (e := (0, .iconst 0, 0)) rfl) rfl rfl ?_
  refine gt_pf (y := Int32.ofInt 0) (ykc_252 (e := (5, .putfield 3, 0)) rfl) rfl hP rfl rfl (by decide) (by decide) rfl (fun ph1 hP1 u1 => ?_)
  have g1 : xV ph1 ∧ R ph1 := xu1_E hEVR u1 rfl rfl rfl ⟨hV, hr⟩
  have i1 : xINV n ph1 := xu1_E (xHEI n) u1 rfl rfl rfl hI
  obtain ⟨U, q27, hU0, hU1⟩ := xM_fi (k := 27) hP1 rfl
  have hU0 : 0 ≤ U.toInt := hU0
  have hU1 : U.toInt ≤ 15 := hU1
  refine gt_load (v := .ref 170) (n := 1) (ykc_252 (e := (2, .aload_n kF0, 0)) rfl) rfl rfl ?_
  refine gt_cv (n := 0) (as := [.ref 170]) (r := []) (ykc_252 (e := (6, .invokevirtual 363, 0)) rfl) rfl hP1 rfl rfl rfl (xputsBy (D := D') hEVR rfl (fun _ => rfl) (u := U.toInt.toNat) (by omega) (by omega) q27 hP1 g1) rfl (fun vv ph2 hv => ?_)
  obtain ⟨e9, hP2, g2, c2⟩ := hv; subst e9
  change xGT kK (D' + 1) 252 _ (9, [some (.ref 170), some (.int p), some (.int q)], [], ph2, 0, 0)
  obtain ⟨i2, r2, q2⟩ := xINV_puts i1 q27 c2
  have g2x : xIR R n U.toInt.toNat U ph2 := ⟨⟨g2, i2⟩, r2, q2⟩
  refine gt_load (v := .ref 170) (n := 1) (ykc_252 (e := (2, .aload_n kF0, 0)) rfl) rfl rfl ?_
  refine gt_load (v := .ref 170) (n := 1) (ykc_252 (e := (2, .aload_n kF0, 0)) rfl) rfl rfl ?_
  refine gt_load (v := .int p) (n := 1) (ykc_252 (e := (2, .iload_n kF1, 0)) rfl) rfl rfl ?_
  refine gt_load (v := .int q) (n := 1) (ykc_252 (e := (2, .iload_n kF2, 0)) rfl) rfl rfl ?_
  refine gt_cv (n := 2) (as := [.ref 170, .int p, .int q]) (r := [.ref 170]) (ykc_252 (e := (6, .invokevirtual 389, 0)) rfl) rfl hP2 rfl rfl rfl (xone_puts (xHIR_G8 hR) (xIR_St hR) hm h0m (by omega) hP2 g2x) rfl (fun vv ph3 hv => ?_)
  obtain ⟨r1, e9, hP3, g3⟩ := hv; subst e9
  change xGT kK (D' + 1) 252 _ (16, [some (.ref 170), some (.int p), some (.int q)], [.int r1, .ref 170], ph3, 0, 0)
  refine gt_cv (n := 1) (as := [.ref 170, .int r1]) (r := []) (ykc_252 (e := (6, .invokevirtual 380, 0)) rfl) rfl hP3 rfl rfl rfl (xcounted hR (by omega) hP3 g3 rfl) rfl (fun vv ph4 hv => ?_)
  obtain ⟨e9, hP4, i4, g4⟩ := hv; subst e9
  change xGT kK (D' + 1) 252 _ (19, [some (.ref 170), some (.int p), some (.int q)], [.int r1], ph4, 0, 0)
  refine gt_ret (ykc_252 (e := (7, .ireturn, 0)) rfl) rfl ?_
  exact ⟨r1, rfl, hP4, g4.1, i4, g4.2⟩
end
section
/-! hours and day of the reference, by hand, printed by wip/x/h_xhours.py -/
set_option maxRecDepth 6000 in
theorem xhL_c {m : Int} {L : List (Option Value)} {s : Option xh} {S : List (Option xh)} (h : xhL xX m L (s :: S)) : ∃ o L', L = o :: L' ∧ (∀ q, s = some q → ∃ v, o = some v ∧ xhG xX m v q) ∧ xhL xX m L' S := by
  cases L with
  | nil => exact h.elim
  | cons o L' => exact ⟨o, L', rfl, h.1, h.2⟩
set_option maxRecDepth 6000 in
theorem xhL_n {m : Int} {L : List (Option Value)} (h : xhL xX m L []) : L = [] := by
  cases L with
  | nil => rfl
  | cons o L' => exact h.elim
set_option maxRecDepth 6000 in
theorem xhF_eq {m : Int} {ph ph' : pm_H} {fs : List (Nat × xh)} (h : xhF xX m ph fs) (hk : fs.all (fun p => Nat.beq (p.1 / 4096) 170) = true) (e : ∀ k, xget ph' 170 k = xget ph 170 k) : xhF xX m ph' fs := fun k q hq => by
  obtain ⟨h1, h2, v, h3, h4⟩ := h k q hq
  have h5 : k / 4096 = 170 := Nat.eq_of_beq_eq_true (List.all_eq_true.mp hk (k, q) hq)
  refine ⟨h1, h2, v, ?_, h4⟩
  rw [h5] at h3 ⊢
  rw [e]
  exact h3
set_option maxRecDepth 6000 in
theorem xhF_get {m : Int} {ph : pm_H} {fs : List (Nat × xh)} {k c : Nat} {lo hi : Int} (h : xhF xX m ph fs) (hm : (k, Sum.inl (lo, hi)) ∈ fs) (hk : k / 4096 = 170) (hc : k % 4096 = c) : ∃ x : Int32, xget ph 170 c = some (.int x) ∧ lo ≤ x.toInt ∧ x.toInt ≤ hi := by
  obtain ⟨-, -, v, h3, x, e, h5, h6⟩ := h k _ hm
  subst e
  rw [hk, hc] at h3
  exact ⟨x, h3, h5, h6⟩
set_option maxRecDepth 6000 in
theorem xone_known {m : Int} (hm : m ≤ 2147483646) (h0m : (0 : Int) ≤ m) {D : Nat} (hD : 2 ≤ D) {ph : pm_H} (hP : xH xX kK m 0 ph) : ∃ v ph', pm_Rd kK false D 234 [.ref 170, .ref 174] ph (v, ph', 0, 0) ∧ (∃ r : Int32, v = some (.int r) ∧ ph' = ph) := by
  obtain ⟨v, ph', k1, k2, k3, ⟨u, e, z, e2, -⟩, -⟩ := (xn_234_0 (E := fun p => p = ph)) D hD m hm h0m [.ref 170, .ref 174] ph ⟨xaRi rfl (by decide), xaRi rfl (by decide), trivial⟩ xF0 hP rfl
  exact ⟨v, ph', k1, z, by rw [e, e2], k3⟩
def xgF_VS : List (Nat × Nat) := [(0, 23), (44, 1), (0, 8), (31, 13), (31, 14), (32, 0), (32, 1), (32, 2), (32, 3), (32, 4), (32, 5), (32, 6), (32, 7), (38, 0), (38, 1), (38, 2), (38, 3), (38, 4), (38, 5), (38, 6), (38, 7), (46, 1), (48, 0), (48, 1), (48, 2), (48, 3), (48, 4), (53, 4), (58, 0), (58, 1), (58, 2), (58, 3), (58, 4), (61, 2), (64, 2), (77, 1), (77, 3), (77, 5), (77, 6), (77, 7), (82, 1), (82, 3), (82, 5), (82, 6), (82, 7), (104, 0), (104, 1), (104, 2), (104, 3), (104, 4), (104, 5), (104, 6), (104, 7), (110, 0), (110, 1), (110, 2), (110, 3), (110, 4), (110, 5), (110, 6), (110, 7), (116, 0), (116, 1), (116, 2), (116, 3), (116, 4), (116, 5), (116, 6), (116, 7), (53, 1), (53, 2), (63, 2), (63, 3), (0, 3), (0, 4), (0, 5), (0, 6), (0, 39)]
set_option maxRecDepth 6000 in
theorem xHE_VS {R : pm_H → Prop} (hR : xHE xX xgA_VR xgF_VS R) : xHE xX xgA_VR xgF_VR R := xHE_sub (by decide +kernel) (by decide +kernel) hR

set_option maxRecDepth 6000 in
theorem xw_hours {R : pm_H → Prop} (hR : xHE xX xgA_VR xgF_VR R) {m : Int} (hm : m ≤ 2147483646) (h0m : (0 : Int) ≤ m) (h9m : (99 : Int) ≤ m) {D n : Nat} (hD : 30 ≤ D) {ph : pm_H} {p0 : Int32} (hP : xH xX kK m 99 ph) (hV : xV ph) (hI : xINV n ph) (hr : R ph) : ∃ v ph', pm_Rd kK false D 248 [.ref 170, .int p0] ph (v, ph', 0, 0) ∧ (∃ r : Int32, v = some (.int r) ∧ xH xX kK m 0 ph' ∧ xV ph' ∧ xINV n ph' ∧ R ph') := by
  obtain ⟨D', rfl⟩ : ∃ D', D = D' + 1 + 1 := ⟨D - 2, by omega⟩
  have hEVR := xHE_and xHEVR hR
  refine xRd_mk (nl := 5) rfl rfl ?_
  show xGT kK (D' + 1) 248 _ (0, [some (.ref 170), some (.int p0), none, none, none], [], ph, 0, 0)
  refine xsg_248a (E := fun p => (xV p ∧ R p) ∧ xINV n p) (xHE_and (xHE_sub (by decide +kernel) (by decide +kernel) hEVR) (xHE_sub (by decide +kernel) (by decide +kernel) (xHEI n))) (by omega) hm ?_ ?_ _ ph h9m ⟨fun q e => by cases e; exact ⟨_, rfl, xaRi rfl (by decide)⟩, fun q e => by cases e; exact ⟨_, rfl, xaT⟩, fun q e => (by cases e), fun q e => (by cases e), fun q e => (by cases e), trivial⟩ xF0 hP ⟨⟨hV, hr⟩, hI⟩
  · intro nd hnd L ph h1 h2 h3 hP g5
    have e9 := List.mem_singleton.mp (show nd ∈ [xnx_248a_1.1] from hnd)
    subst e9
    obtain ⟨o0, L, e, q0, j1⟩ := xhL_c h2
    subst e
    obtain ⟨o1, L, e, q1, j2⟩ := xhL_c j1
    subst e
    obtain ⟨o2, L, e, -, j3⟩ := xhL_c j2
    subst e
    obtain ⟨o3, L, e, -, j4⟩ := xhL_c j3
    subst e
    obtain ⟨o4, L, e, -, j5⟩ := xhL_c j4
    subst e
    have e := xhL_n j5
    subst e
    obtain ⟨v0, e0, q0⟩ := q0 _ rfl
    have e8 := xaO (A := 170) hP rfl q0
    subst e0 e8
    obtain ⟨v1, e1, p, e2, p1, p2⟩ := q1 _ rfl
    subst e1 e2
    have p1 : 0 ≤ p.toInt := p1
    have p2 : p.toInt ≤ 60 := p2
    replace hP : xH xX kK m 99 ph := hP
    change xGT kK (D' + 1) 248 _ (19, [some (.ref 170), some (.int p), o2, o3, o4], [], ph, 0, 0)
    have g5 : (xV ph ∧ R ph) ∧ xINV n ph := g5
    obtain ⟨U, q27, hU0, hU1⟩ := xM_fi (k := 27) hP rfl
    have hU0 : 0 ≤ U.toInt := hU0
    have hU1 : U.toInt ≤ 15 := hU1
    refine gt_load (v := .ref 170) (n := 1) (ykc_248 (e := (2, .aload_n kF0, 0)) rfl) rfl rfl ?_
    refine gt_cv (n := 0) (as := [.ref 170]) (r := []) (ykc_248 (e := (6, .invokevirtual 363, 0)) rfl) rfl hP rfl rfl rfl (xputsBy (D := D') hEVR rfl (fun _ => rfl) (u := U.toInt.toNat) (by omega) (by omega) q27 hP g5.1) rfl (fun vv ph1 hv => ?_)
    obtain ⟨e9, hP2, g2, c2⟩ := hv; subst e9
    change xGT kK (D' + 1) 248 _ (23, [some (.ref 170), some (.int p), o2, o3, o4], [], ph1, 0, 0)
    obtain ⟨i2, r2, q2⟩ := xINV_puts g5.2 q27 c2
    have g2x : xIR R n U.toInt.toNat U ph1 := ⟨⟨g2, i2⟩, r2, q2⟩
    refine xsg_248b (xHIR_G83 hR) (fun _ q => q.1.1.1) (by omega) hm ?_ ?_ _ ph1 h9m ⟨fun q e => by cases e; exact ⟨_, rfl, xaRi rfl (by decide)⟩, fun q e => by cases e; exact ⟨_, rfl, xaI p1 p2⟩, fun q e => (by cases e), fun q e => (by cases e), fun q e => (by cases e), trivial⟩ (xhF_eq h3 (by decide) (fun k => c2.2.1 170 k (fun q => absurd q.1 (by decide)))) hP2 g2x
    · intro nd hnd L ph3 h1 h2 h3 hP3 g6
      have e9 := List.mem_singleton.mp (show nd ∈ [xnx_248b_2.1] from hnd)
      subst e9
      obtain ⟨o0, L, e, q0, j1⟩ := xhL_c h2
      subst e
      obtain ⟨r1, L, e, -, j2⟩ := xhL_c j1
      subst e
      obtain ⟨r2, L, e, -, j3⟩ := xhL_c j2
      subst e
      obtain ⟨r3, L, e, -, j4⟩ := xhL_c j3
      subst e
      obtain ⟨r4, L, e, -, j5⟩ := xhL_c j4
      subst e
      have e := xhL_n j5
      subst e
      obtain ⟨v0, e0, q0⟩ := q0 _ rfl
      have e8 := xaO (A := 170) hP3 rfl q0
      subst e0 e8
      replace hP3 : xH xX kK m 0 ph3 := hP3
      have g6 : xIR R n U.toInt.toNat U ph3 := g6
      change xGT kK (D' + 1) 248 _ (100, [some (.ref 170), r1, r2, r3, r4], [], ph3, 0, 0)
      refine gt_load (v := .ref 170) (n := 1) (ykc_248 (e := (2, .aload_n kF0, 0)) rfl) rfl rfl ?_
      refine gt_load (v := .ref 170) (n := 1) (ykc_248 (e := (2, .aload_n kF0, 0)) rfl) rfl rfl ?_
      refine gt_load (v := .ref 170) (n := 1) (ykc_248 (e := (2, .aload_n kF0, 0)) rfl) rfl rfl ?_
      refine gt_gfr (A := 174) (ykc_248 (e := (5, .getfield 41, 0)) rfl) rfl hP3 rfl rfl rfl ?_
      refine gt_cv (n := 1) (as := [.ref 170, .ref 174]) (r := [.ref 170]) (ykc_248 (e := (6, .invokevirtual 366, 0)) rfl) rfl hP3 rfl rfl rfl (xone_known hm h0m (by omega) hP3) rfl (fun vv ph11 hv => ?_)
      obtain ⟨y, e9, e8⟩ := hv; subst e9; have e7 := e8.symm; subst e7
      change xGT kK (D' + 1) 248 _ (109, [some (.ref 170), r1, r2, r3, r4], [.int y, .ref 170], ph3, 0, 0)
      refine gt_cv (n := 1) (as := [.ref 170, .int y]) (r := []) (ykc_248 (e := (6, .invokevirtual 341, 0)) rfl) rfl hP3 rfl rfl rfl (xadds (D := D') hEVR hP3 g6.1.1 g6.1.2 g6.2.2 g6.2.1) rfl (fun vv ph12 hv => ?_)
      obtain ⟨e9, hP4, i4, g4⟩ := hv; subst e9
      change xGT kK (D' + 1) 248 _ (112, [some (.ref 170), r1, r2, r3, r4], [.int y], ph12, 0, 0)
      refine gt_ret (ykc_248 (e := (7, .ireturn, 0)) rfl) rfl ?_
      exact ⟨y, rfl, hP4, g4.1, i4, g4.2⟩
    · intro v ph' a1 a2 a3 _
      obtain ⟨u, e, z, e2, -⟩ := a3
      exact ⟨z, by rw [e, e2], a1, a2.1.1.1, a2.1.2, a2.1.1.2⟩
  · intro v ph' a1 a2 a3 _
    obtain ⟨u, e, z, e2, -⟩ := a3
    exact ⟨z, by rw [e, e2], a1, a2.1.1, a2.2, a2.1.2⟩

set_option maxRecDepth 6000 in
theorem xint0 {x : Int32} (h1 : (0 : Int) ≤ x.toInt) (h2 : x.toInt ≤ 0) : x = 0 := Int32.toInt_inj.mp (show x.toInt = 0 by omega)
set_option maxRecDepth 6000 in
theorem xw_day {R : pm_H → Prop} (hR0 : xHE xX xgA_VR xgF_VS R) {m : Int} (hm : m ≤ 2147483646) (h0m : (0 : Int) ≤ m) (h9m : (540 : Int) ≤ m) {D n : Nat} (hD : 30 ≤ D) {ph : pm_H} (hP : xH xX kK m 540 ph) (hV : xV ph) (hI : xINV n ph) (hr : R ph) : ∃ v ph', pm_Rd kK false D 255 [.ref 170] ph (v, ph', 0, 0) ∧ (∃ r : Int32, v = some (.int r) ∧ xH xX kK m 0 ph' ∧ xV ph' ∧ xINV n ph' ∧ R ph' ∧ xget ph' 170 14 = some (.int 0)) := by
  obtain ⟨D', rfl⟩ : ∃ D', D = D' + 1 + 1 := ⟨D - 2, by omega⟩
  have hR : xHE xX xgA_VR xgF_VR (fun p => R p ∧ xget p 170 14 = some (.int 0)) := xHE_and (xHE_VS hR0) (xHE_g rfl)
  have hEVR := xHE_and xHEVR hR
  have hEV0 := xHE_and (xHE_sub (gA' := xgA_VR) (gF' := xgF_VS) (by decide +kernel) (by decide +kernel) xHEV) hR0
  refine xRd_mk (nl := 5) rfl rfl ?_
  show xGT kK (D' + 1) 255 _ (0, [some (.ref 170), none, none, none, none], [], ph, 0, 0)
  refine xsg_255a (E := fun p => (xV p ∧ R p) ∧ xINV n p) (xHE_and (xHE_sub (by decide +kernel) (by decide +kernel) hEV0) (xHE_sub (by decide +kernel) (by decide +kernel) (xHEI n))) (by omega) hm ?_ ?_ _ ph h9m ⟨fun q e => by cases e; exact ⟨_, rfl, xaRi rfl (by decide)⟩, fun q e => (by cases e), fun q e => (by cases e), fun q e => (by cases e), fun q e => (by cases e), trivial⟩ xF0 hP ⟨⟨hV, hr⟩, hI⟩
  · intro nd hnd L ph h1 h2 h3 hP g5
    have e9 := List.mem_singleton.mp (show nd ∈ [xnx_255a_62.1] from hnd)
    subst e9
    obtain ⟨o0, L, e, q0, j1⟩ := xhL_c h2
    subst e
    obtain ⟨o1, L, e, -, j2⟩ := xhL_c j1
    subst e
    obtain ⟨o2, L, e, -, j3⟩ := xhL_c j2
    subst e
    obtain ⟨o3, L, e, -, j4⟩ := xhL_c j3
    subst e
    obtain ⟨o4, L, e, -, j5⟩ := xhL_c j4
    subst e
    have e := xhL_n j5
    subst e
    obtain ⟨v0, e0, q0⟩ := q0 _ rfl
    have e8 := xaO (A := 170) hP rfl q0
    subst e0 e8
    replace hP : xH xX kK m 540 ph := hP
    change xGT kK (D' + 1) 255 _ (57, [some (.ref 170), o1, o2, o3, o4], [], ph, 0, 0)
    have g5 : (xV ph ∧ R ph) ∧ xINV n ph := g5
    obtain ⟨t, t0, t1, t2⟩ := xhF_get (k := 696334) (c := 14) h3 (List.Mem.tail _ (List.Mem.head _)) rfl rfl
    have e := xint0 t1 t2
    subst e
    obtain ⟨U, q27, hU0, hU1⟩ := xM_fi (k := 27) hP rfl
    have hU0 : 0 ≤ U.toInt := hU0
    have hU1 : U.toInt ≤ 15 := hU1
    refine gt_load (v := .ref 170) (n := 1) (ykc_255 (e := (2, .aload_n kF0, 0)) rfl) rfl rfl ?_
    refine gt_cv (n := 0) (as := [.ref 170]) (r := []) (ykc_255 (e := (6, .invokevirtual 363, 0)) rfl) rfl hP rfl rfl rfl (xputsBy (D := D') hEVR rfl (fun _ => rfl) (u := U.toInt.toNat) (by omega) (by omega) q27 hP ⟨g5.1.1, g5.1.2, t0⟩) rfl (fun vv ph1 hv => ?_)
    obtain ⟨e9, hP2, g2, c2⟩ := hv; subst e9
    change xGT kK (D' + 1) 255 _ (61, [some (.ref 170), o1, o2, o3, o4], [], ph1, 0, 0)
    obtain ⟨i2, r2, q2⟩ := xINV_puts g5.2 q27 c2
    have g2x : xIR (fun p => R p ∧ xget p 170 14 = some (.int 0)) n U.toInt.toNat U ph1 := ⟨⟨g2, i2⟩, r2, q2⟩
    refine xsg_255b (xHIR_G92 hR) (fun _ q => q.1.1.1) (xIR_St hR) (by omega) hm ?_ ?_ _ ph1 h9m ⟨fun q e => by cases e; exact ⟨_, rfl, xaRi rfl (by decide)⟩, fun q e => (by cases e), fun q e => (by cases e), fun q e => (by cases e), fun q e => (by cases e), trivial⟩ (xhF_eq h3 (by decide) (fun k => c2.2.1 170 k (fun q => absurd q.1 (by decide)))) hP2 g2x
    · intro nd hnd L ph3 h1 h2 h3 hP3 g6
      have e9 := List.mem_singleton.mp (show nd ∈ [xnx_255b_32.1] from hnd)
      subst e9
      obtain ⟨o0, L, e, q0, j1⟩ := xhL_c h2
      subst e
      obtain ⟨r1, L, e, -, j2⟩ := xhL_c j1
      subst e
      obtain ⟨r2, L, e, -, j3⟩ := xhL_c j2
      subst e
      obtain ⟨r3, L, e, -, j4⟩ := xhL_c j3
      subst e
      obtain ⟨o4, L, e, q4, j5⟩ := xhL_c j4
      subst e
      have e := xhL_n j5
      subst e
      obtain ⟨v0, e0, q0⟩ := q0 _ rfl
      have e8 := xaO (A := 170) hP3 rfl q0
      subst e0 e8
      obtain ⟨v4, e4, y, e7, -⟩ := q4 _ rfl
      subst e4 e7
      replace hP3 : xH xX kK m 270 ph3 := hP3
      have g6 : xIR (fun p => R p ∧ xget p 170 14 = some (.int 0)) n U.toInt.toNat U ph3 := g6
      change xGT kK (D' + 1) 255 _ (132, [some (.ref 170), r1, r2, r3, some (.int y)], [], ph3, 0, 0)
      refine gt_load (v := .ref 170) (n := 1) (ykc_255 (e := (2, .aload_n kF0, 0)) rfl) rfl rfl ?_
      refine gt_load (v := .int y) (n := 2) (ykc_255 (e := (2, .iload 4, 0)) rfl) rfl rfl ?_
      refine gt_cv (n := 1) (as := [.ref 170, .int y]) (r := []) (ykc_255 (e := (6, .invokevirtual 341, 0)) rfl) rfl hP3 rfl rfl rfl (xadds (D := D') hEVR (xH_w (Nat.zero_le _) hP3) g6.1.1 g6.1.2 g6.2.2 g6.2.1) rfl (fun vv ph11 hv => ?_)
      obtain ⟨e9, hP4, i4, g4⟩ := hv; subst e9
      change xGT kK (D' + 1) 255 _ (138, [some (.ref 170), r1, r2, r3, some (.int y)], [.int y], ph11, 0, 0)
      refine gt_br (pc' := 142) (st' := [.int y]) (ykc_255 (e := (4, .goto 4, 142)) rfl) rfl ?_
      refine gt_ret (ykc_255 (e := (7, .ireturn, 0)) rfl) rfl ?_
      exact ⟨y, rfl, hP4, g4.1, i4, g4.2.1, g4.2.2⟩
    · intro v ph' a1 a2 a3 _
      obtain ⟨u, e, z, e2, -⟩ := a3
      exact ⟨z, by rw [e, e2], a1, a2.1.1.1, a2.1.2, a2.1.1.2.1, a2.1.1.2.2⟩
  · intro v ph' a1 a2 a3 a4
    obtain ⟨u, e, z, e2, -⟩ := a3
    obtain ⟨t, t0, t1, t2⟩ := xhF_get (k := 696334) (c := 14) a4 (List.Mem.head _) rfl rfl
    have e9 := xint0 t1 t2
    subst e9
    exact ⟨z, by rw [e, e2], a1, a2.1.1, a2.2, a2.1.2, t0⟩
end
