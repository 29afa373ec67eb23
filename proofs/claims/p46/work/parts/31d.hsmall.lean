
/-! Small methods of the reference, by hand, printed by wip/x/h_small.py -/
section XLS
variable {K : pm_K} {D j pc pc' aux : Nat} {Q : Option Value → pm_H → Prop} {L : List (Option Value)} {st : List Value} {ph : pm_H} {m : Int} {w : Nat} {x : Int32}
set_option maxRecDepth 6000 in
theorem gt_las {y : Int64} {A i n p u : Nat} {sg : List (Nat × xe)} (hc : pm_code K j pc = some (5, .lastore, aux)) (hP : xH xX kK m w ph) (ho : xown A = some i) (ht : xkt i = some (some A, .inl (2, n, p, sg, u))) (h0 : 0 ≤ x.toInt) (h1 : x.toInt < n) (hp : pc + 1 = pc') (kk : ∀ ph', xH xX kK m w ph' → xu0 ph ph' A → xGT K D j Q (pc', L, st, ph', 0, 0)) : xGT K D j Q (pc, L, .long y :: .int x :: .ref A :: st, ph, 0, 0) := by
  obtain ⟨s, t, h4, -, h3⟩ := hP A i ho
  rw [show xX.2.1 i = xkt i from rfl, ht] at h4
  cases h4
  obtain ⟨l, hat, hlen⟩ := h3
  have hlt : x.toInt.toNat < l.length := by omega
  have hat2 : pm_at (ph.set A (.inl (2, .inr (.inl (l.set x.toInt.toNat y))))) A = some (.inl (2, .inr (.inl (l.set x.toInt.toNat y)))) := xat_self hat
  refine gt_mem (ph' := ph.set A (.inl (2, .inr (.inl (l.set x.toInt.toNat y))))) hc ?_ hp (kk _ ?_ ⟨?_, ?_⟩)
  · unfold pm_mem
    simp only [hat, xup_eq h0 hlt]
  · exact xH_set (t := .inl (2, n, p, sg, u)) hP ho ht ⟨_, hat2, by rw [List.length_set]; exact hlen⟩
  · intro b c
    by_cases eb : b = A
    · subst eb
      unfold xget
      rw [hat2, hat]
      rfl
    · exact xget_ne eb
  · intro b eb
    exact xat_ne eb
set_option maxRecDepth 6000 in
theorem gt_bas {y : Int32} {A i n p u : Nat} {sg : List (Nat × xe)} (hc : pm_code K j pc = some (5, .bastore, aux)) (hP : xH xX kK m w ph) (ho : xown A = some i) (ht : xkt i = some (some A, .inl (1, n, p, sg, u))) (h0 : 0 ≤ x.toInt) (h1 : x.toInt < n) (hp : pc + 1 = pc') (kk : ∀ ph', xH xX kK m w ph' → (xu0 ph ph' A ∧ xgb ph' A x.toInt.toNat (y &&& 1) ∧ ∀ k z, k ≠ x.toInt.toNat → (xgb ph' A k z ↔ xgb ph A k z)) → xGT K D j Q (pc', L, st, ph', 0, 0)) : xGT K D j Q (pc, L, .int y :: .int x :: .ref A :: st, ph, 0, 0) := by
  obtain ⟨s, t, h4, -, h3⟩ := hP A i ho
  rw [show xX.2.1 i = xkt i from rfl, ht] at h4
  cases h4
  obtain ⟨l, hat, hlen, hel⟩ := h3
  have hlt : x.toInt.toNat < l.length := by omega
  have hat2 : pm_at (ph.set A (.inl (1, .inl (l.set x.toInt.toNat (y &&& 1))))) A = some (.inl (1, .inl (l.set x.toInt.toNat (y &&& 1)))) := xat_self hat
  refine gt_mem (ph' := ph.set A (.inl (1, .inl (l.set x.toInt.toNat (y &&& 1))))) hc ?_ hp (kk _ ?_ ⟨⟨?_, ?_⟩, ?_, ?_⟩)
  · unfold pm_mem
    simp only [hat, xup_eq h0 hlt]
  · refine xH_set (t := .inl (1, n, p, sg, u)) hP ho ht ⟨_, hat2, by rw [List.length_set]; exact hlen, fun i2 x2 hx2 => ?_⟩
    by_cases ei : i2 = x.toInt.toNat
    · subst ei
      rw [List.getElem?_set_self hlt] at hx2
      cases hx2
      have h1 : (1 : Int32).toInt = 1 := rfl
      have := xand_le (x := y) (y := (1 : Int32)) (by omega)
      omega
    · rw [List.getElem?_set_ne (Ne.symm ei)] at hx2
      exact hel i2 x2 hx2
  · intro b c
    by_cases eb : b = A
    · subst eb
      unfold xget
      rw [hat2, hat]
      rfl
    · exact xget_ne eb
  · intro b eb
    exact xat_ne eb
  · exact ⟨_, hat2, List.getElem?_set_self hlt⟩
  · intro k z hk
    constructor
    · rintro ⟨l2, h5, h6⟩
      rw [hat2] at h5
      cases h5
      rw [List.getElem?_set_ne (Ne.symm hk)] at h6
      exact ⟨l, hat, h6⟩
    · rintro ⟨l2, h5, h6⟩
      rw [hat] at h5
      cases h5
      exact ⟨_, hat2, by rw [List.getElem?_set_ne (Ne.symm hk)]; exact h6⟩
end XLS
set_option maxRecDepth 6000 in
theorem xcmpL {x y : Int64} : ((lg_cmp x y).toInt < 0 ↔ x.toInt < y.toInt) ∧ (0 < (lg_cmp x y).toInt ↔ y.toInt < x.toInt) ∧ ((lg_cmp x y).toInt = 0 ↔ x.toInt = y.toInt) := by
  have h := xcmp_lt x y
  refine ⟨h.1, ?_, h.2⟩
  omega

set_option maxRecDepth 6000 in
theorem xin_run {D : Nat} {v lo hi : Int64} {ph : pm_H} : ∃ r ph', pm_Rd kK false (D + 1) 182 [.long v, .long lo, .long hi] ph (r, ph', 0, 0) ∧ (∃ z : Int32, r = some (.int z) ∧ ph' = ph ∧ ((z.toInt = 1 ∧ lo.toInt ≤ v.toInt ∧ v.toInt ≤ hi.toInt) ∨ (z.toInt = 0 ∧ (v.toInt < lo.toInt ∨ hi.toInt < v.toInt)))) := by
  refine xRd_mk (nl := 6) rfl rfl ?_
  show xGT kK D 182 _ (0, [some (.long v), none, some (.long lo), none, some (.long hi), none], [], ph, 0, 0)
  refine gt_load (v := .long v) (n := 1) (ykc_182 (e := (2, .lload_n kF0, 0)) rfl) rfl rfl ?_
  refine gt_load (v := .long lo) (n := 1) (ykc_182 (e := (2, .lload_n kF2, 0)) rfl) rfl rfl ?_
  refine gt_alu (st' := [.int (lg_cmp v lo)]) (ykc_182 (e := (0, .lcmp, 0)) rfl) rfl rfl ?_
  by_cases h1 : v.toInt < lo.toInt
  · refine gt_zlt_t (ykc_182 (e := (4, .ifCond .lt 14, 17)) rfl) (xcmpL.1.mpr h1) ?_
    refine gt_alu (st' := [.int (Int32.ofInt 0)]) (ykc_182 (e := (0, .iconst 0, 0)) rfl) rfl rfl ?_
    refine gt_ret (ykc_182 (e := (7, .ireturn, 0)) rfl) rfl ?_
    exact ⟨_, rfl, rfl, Or.inr ⟨by decide, Or.inl h1⟩⟩
  · refine gt_zlt_f (ykc_182 (e := (4, .ifCond .lt 14, 17)) rfl) (by have := @xcmpL v lo; omega) rfl ?_
    refine gt_load (v := .long v) (n := 1) (ykc_182 (e := (2, .lload_n kF0, 0)) rfl) rfl rfl ?_
    refine gt_load (v := .long hi) (n := 2) (ykc_182 (e := (2, .lload 4, 0)) rfl) rfl rfl ?_
    refine gt_alu (st' := [.int (lg_cmp v hi)]) (ykc_182 (e := (0, .lcmp, 0)) rfl) rfl rfl ?_
    by_cases h2 : hi.toInt < v.toInt
    · refine gt_zgt_t (ykc_182 (e := (4, .ifCond .gt 7, 17)) rfl) (xcmpL.2.1.mpr h2) ?_
      refine gt_alu (st' := [.int (Int32.ofInt 0)]) (ykc_182 (e := (0, .iconst 0, 0)) rfl) rfl rfl ?_
      refine gt_ret (ykc_182 (e := (7, .ireturn, 0)) rfl) rfl ?_
      exact ⟨_, rfl, rfl, Or.inr ⟨by decide, Or.inr h2⟩⟩
    · refine gt_zgt_f (ykc_182 (e := (4, .ifCond .gt 7, 17)) rfl) (by have := @xcmpL v hi; omega) rfl ?_
      refine gt_alu (st' := [.int (Int32.ofInt 1)]) (ykc_182 (e := (0, .iconst 1, 0)) rfl) rfl rfl ?_
      refine gt_br (pc' := 18) (st' := [.int (Int32.ofInt 1)]) (ykc_182 (e := (4, .goto 4, 18)) rfl) rfl ?_
      refine gt_ret (ykc_182 (e := (7, .ireturn, 0)) rfl) rfl ?_
      exact ⟨_, rfl, rfl, Or.inl ⟨by decide, by omega, by omega⟩⟩
set_option maxRecDepth 6000 in
theorem tl_i2l {x : Int32} : x.toInt64.toInt = x.toInt := Int32.toInt_toInt64 x
set_option maxRecDepth 6000 in
theorem xisPerson {m : Int} {w D : Nat} {p P : Int32} {ph : pm_H} (hP : xH xX kK m w ph) (hF : xget ph 170 5 = some (.int P)) : ∃ r ph', pm_Rd kK false (D + 1 + 1) 190 [.ref 170, .int p] ph (r, ph', 0, 0) ∧ (∃ z : Int32, r = some (.int z) ∧ ph' = ph ∧ ((z.toInt = 1 ∧ 0 ≤ p.toInt ∧ p.toInt < P.toInt) ∨ (z.toInt = 0 ∧ (p.toInt < 0 ∨ P.toInt ≤ p.toInt)))) := by
  have hb : 0 ≤ P.toInt ∧ P.toInt ≤ 8 := by
    obtain ⟨P2, h1, h2, h3⟩ := xM_fi (k := 5) hP rfl
    have := xget_int hF h1
    subst this
    exact ⟨h2, h3⟩
  refine xRd_mk (nl := 2) rfl rfl ?_
  show xGT kK (D + 1) 190 _ (0, [some (.ref 170), some (.int p)], [], ph, 0, 0)
  refine gt_load (v := .int p) (n := 1) (ykc_190 (e := (2, .iload_n kF1, 0)) rfl) rfl rfl ?_
  refine gt_alu (st' := [.long p.toInt64]) (ykc_190 (e := (0, .i2l, 0)) rfl) rfl rfl ?_
  refine gt_alu (st' := [.long (Int64.ofNat kG0), .long p.toInt64]) (ykc_190 (e := (0, .lconst kG0, 0)) rfl) rfl rfl ?_
  refine gt_load (v := .ref 170) (n := 1) (ykc_190 (e := (2, .aload_n kF0, 0)) rfl) rfl rfl ?_
  refine gt_gfk (v := .int P) (ykc_190 (e := (5, .getfield 130, 0)) rfl) rfl hP hF rfl ?_
  refine gt_alu (st' := [.int (Int32.ofInt 1), .int P, .long (Int64.ofNat kG0), .long p.toInt64]) (ykc_190 (e := (0, .iconst 1, 0)) rfl) rfl rfl ?_
  obtain ⟨q, e_q, h_q⟩ : ∃ zq : Int32, P - (Int32.ofInt 1) = zq ∧ zq.toInt = P.toInt - 1 := ⟨_, rfl, by rw [ti_sub (by rw [xi1]; omega) (by rw [xi1]; omega), xi1]⟩
  refine gt_alu (st' := [.int q, .long (Int64.ofNat kG0), .long p.toInt64]) (ykc_190 (e := (0, .isub, 0)) rfl) (by rw [← e_q]; exact rfl) rfl ?_
  refine gt_alu (st' := [.long q.toInt64, .long (Int64.ofNat kG0), .long p.toInt64]) (ykc_190 (e := (0, .i2l, 0)) rfl) rfl rfl ?_
  refine gt_cs (n := 3) (as := [.long p.toInt64, .long (Int64.ofNat kG0), .long q.toInt64]) (r := []) (ykc_190 (e := (6, .invokestatic 126, 0)) rfl) rfl rfl rfl rfl (xin_run (D := D)) rfl (fun vv ph1 hv => ?_)
  obtain ⟨z, e9, e8, z_s⟩ := hv; subst e9; have e7 := e8.symm; subst e7; rw [tl_i2l, tl_i2l, h_q] at z_s
  change xGT kK (D + 1) 190 _ (13, [some (.ref 170), some (.int p)], [.int z], ph, 0, 0)
  have z0 : (Int64.ofNat kG0).toInt = 0 := rfl
  rw [z0] at z_s
  refine gt_ret (ykc_190 (e := (7, .ireturn, 0)) rfl) (xretz (by omega) (by omega)) ?_
  refine ⟨z, rfl, rfl, ?_⟩
  omega

def xhasb (b : Int64) (k : Int32) : Prop := (b >>> (k.toInt64 &&& 63)) &&& Int64.ofNat kG1 = Int64.ofNat kG1
set_option maxRecDepth 6000 in
theorem xhas_run {D : Nat} {b : Int64} {k : Int32} {ph : pm_H} : ∃ r ph', pm_Rd kK false (D + 1) 183 [.long b, .int k] ph (r, ph', 0, 0) ∧ (∃ z : Int32, r = some (.int z) ∧ ph' = ph ∧ ((z.toInt = 1 ∧ xhasb b k) ∨ (z.toInt = 0 ∧ ¬ xhasb b k))) := by
  refine xRd_mk (nl := 3) rfl rfl ?_
  show xGT kK D 183 _ (0, [some (.long b), none, some (.int k)], [], ph, 0, 0)
  refine gt_load (v := .long b) (n := 1) (ykc_183 (e := (2, .lload_n kF0, 0)) rfl) rfl rfl ?_
  refine gt_load (v := .int k) (n := 1) (ykc_183 (e := (2, .iload_n kF2, 0)) rfl) rfl rfl ?_
  refine gt_alu (st' := [.long (b >>> (k.toInt64 &&& 63))]) (ykc_183 (e := (0, .lshr, 0)) rfl) rfl rfl ?_
  refine gt_alu (st' := [.long (Int64.ofNat kG1), .long (b >>> (k.toInt64 &&& 63))]) (ykc_183 (e := (0, .lconst kG1, 0)) rfl) rfl rfl ?_
  refine gt_alu (st' := [.long ((b >>> (k.toInt64 &&& 63)) &&& (Int64.ofNat kG1))]) (ykc_183 (e := (0, .land, 0)) rfl) rfl rfl ?_
  refine gt_alu (st' := [.long (Int64.ofNat kG1), .long ((b >>> (k.toInt64 &&& 63)) &&& (Int64.ofNat kG1))]) (ykc_183 (e := (0, .lconst kG1, 0)) rfl) rfl rfl ?_
  refine gt_alu (st' := [.int (lg_cmp ((b >>> (k.toInt64 &&& 63)) &&& (Int64.ofNat kG1)) (Int64.ofNat kG1))]) (ykc_183 (e := (0, .lcmp, 0)) rfl) rfl rfl ?_
  by_cases h : (b >>> (k.toInt64 &&& 63)) &&& Int64.ofNat kG1 = Int64.ofNat kG1
  · refine gt_zne_f (ykc_183 (e := (4, .ifCond .ne 7, 14)) rfl) (xcmpL.2.2.mpr (by rw [h])) rfl ?_
    refine gt_alu (st' := [.int (Int32.ofInt 1)]) (ykc_183 (e := (0, .iconst 1, 0)) rfl) rfl rfl ?_
    refine gt_br (pc' := 15) (st' := [.int (Int32.ofInt 1)]) (ykc_183 (e := (4, .goto 4, 15)) rfl) rfl ?_
    refine gt_ret (ykc_183 (e := (7, .ireturn, 0)) rfl) rfl ?_
    exact ⟨_, rfl, rfl, Or.inl ⟨by decide, h⟩⟩
  · refine gt_zne_t (ykc_183 (e := (4, .ifCond .ne 7, 14)) rfl) (fun q => h (Int64.toInt_inj.mp (xcmpL.2.2.mp q))) ?_
    refine gt_alu (st' := [.int (Int32.ofInt 0)]) (ykc_183 (e := (0, .iconst 0, 0)) rfl) rfl rfl ?_
    refine gt_ret (ykc_183 (e := (7, .ireturn, 0)) rfl) rfl ?_
    exact ⟨_, rfl, rfl, Or.inr ⟨by decide, h⟩⟩

/-- told one number more -/
def xent1 (ph ph' : pm_H) (t1 : Int32) : Prop := xget ph' 170 1 = some (.int t1) ∧ (∀ b c, ¬ (b = 170 ∧ c = 1) → xget ph' b c = xget ph b c) ∧ ∀ b, b ≠ 170 → b ≠ 171 → pm_at ph' b = pm_at ph b
set_option maxRecDepth 6000 in
theorem xenters {m : Int} {w D : Nat} {v : Int64} {t : Int32} {ph : pm_H} (hP : xH xX kK m w ph) (ht : xget ph 170 1 = some (.int t)) (h0 : 0 ≤ t.toInt) (h1 : t.toInt < 53) : ∃ r ph', pm_Rd kK false (D + 1) 186 [.ref 170, .long v] ph (r, ph', 0, 0) ∧ (∃ t1 : Int32, r = none ∧ t1.toInt = t.toInt + 1 ∧ xH xX kK m w ph' ∧ xent1 ph ph' t1) := by
  refine xRd_mk (nl := 3) rfl rfl ?_
  show xGT kK D 186 _ (0, [some (.ref 170), some (.long v), none], [], ph, 0, 0)
  refine gt_load (v := .ref 170) (n := 1) (ykc_186 (e := (2, .aload_n kF0, 0)) rfl) rfl rfl ?_
  refine gt_gfr (A := 171) (ykc_186 (e := (5, .getfield 11, 0)) rfl) rfl hP rfl rfl rfl ?_
  refine gt_load (v := .ref 170) (n := 1) (ykc_186 (e := (2, .aload_n kF0, 0)) rfl) rfl rfl ?_
  refine gt_gfk (v := .int t) (ykc_186 (e := (5, .getfield 15, 0)) rfl) rfl hP ht rfl ?_
  refine gt_load (v := .long v) (n := 1) (ykc_186 (e := (2, .lload_n kF1, 0)) rfl) rfl rfl ?_
  refine gt_las (A := 171) (y := v) (x := t) (ykc_186 (e := (5, .lastore, 0)) rfl) hP rfl rfl (by omega) (by omega) rfl (fun ph1 hP1 u1 => ?_)
  have f1_1 : xget ph1 170 1 = some (.int t) := (u1.1 170 1).trans ht
  refine gt_load (v := .ref 170) (n := 1) (ykc_186 (e := (2, .aload_n kF0, 0)) rfl) rfl rfl ?_
  refine gt_alu (st' := [.ref 170, .ref 170]) (ykc_186 (e := (0, .dup, 0)) rfl) rfl rfl ?_
  refine gt_gfk (v := .int t) (ykc_186 (e := (5, .getfield 15, 0)) rfl) rfl hP1 f1_1 rfl ?_
  refine gt_alu (st' := [.int (Int32.ofInt 1), .int t, .ref 170]) (ykc_186 (e := (0, .iconst 1, 0)) rfl) rfl rfl ?_
  obtain ⟨t1, e_t1, h_t1⟩ : ∃ zq : Int32, t + (Int32.ofInt 1) = zq ∧ zq.toInt = t.toInt + 1 := ⟨_, rfl, by rw [ti_add (by rw [xi1]; omega) (by rw [xi1]; omega), xi1]⟩
  refine gt_alu (st' := [.int t1, .ref 170]) (ykc_186 (e := (0, .iadd, 0)) rfl) (by rw [← e_t1]; exact rfl) rfl ?_
  refine gt_pf (y := t1) (ykc_186 (e := (5, .putfield 15, 0)) rfl) rfl hP1 rfl rfl (by show 0 ≤ t1.toInt; omega) (by show t1.toInt ≤ 53; omega) rfl (fun ph2 hP2 u2 => ?_)
  refine gt_ret (ykc_186 (e := (7, .return_, 0)) rfl) rfl ?_
  exact ⟨t1, rfl, h_t1, hP2, u2.1, fun b c hne => (u2.2.1 b c hne).trans (u1.1 b c), fun b h1 h2 => (u2.2.2 b h1).trans (u1.2 b h2)⟩
set_option maxRecDepth 6000 in
theorem xent1_E {E : pm_H → Prop} {gA : List Nat} {gF : List (Nat × Nat)} {ph ph' : pm_H} {t1 : Int32} (hE : xHE xX gA gF E) (u : xent1 ph ph' t1) (h0 : xmemN gA 0 = false) (h1 : xmemN gA 1 = false) (h2 : xmemP gF 0 1 = false) (g : E ph) : E ph' := by
  refine hE ph ph' ⟨fun b j hb hj => ?_, fun b j c hb hj => ?_⟩ g
  · have hb : xown b = some j := hb
    by_cases e : b = 170
    · subst e
      have e0 : xown 170 = some 0 := rfl
      rw [e0] at hb
      cases hb
      exact absurd hj (xmemN_ok h0)
    · by_cases e2 : b = 171
      · subst e2
        have e0 : xown 171 = some 1 := rfl
        rw [e0] at hb
        cases hb
        exact absurd hj (xmemN_ok h1)
      · exact (u.2.2 b e e2).symm
  · refine (u.2.1 b c ?_).symm
    rintro ⟨e1, e2⟩
    subst e1 e2
    have hb : xown 170 = some j := hb
    have e0 : xown 170 = some 0 := rfl
    rw [e0] at hb
    cases hb
    exact absurd hj (xmemP_ok h2)

