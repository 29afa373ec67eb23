/-! A check of an index: the static that is carried and the call, in one -/
section XMAC
variable {X : xD} {K KC : pm_K} {E : pm_H → Prop} {d mj pc aux jp : Nat} {g : xb}
def xmac (g : xb) : xb := fun k ρ S => match S with
  | (n, A, [.inl q, .inl p], fs, w, F) => bif (bif zle 0 p.2.2.1 then zle (p.2.2.2 + 1) q.2.2.1 else false) then g k ρ (n, A, [.inl p], fs, w, F) else false
  | _ => false
theorem xmac_ok {i : Nat} (hc : pm_code K mj pc = some (8, .getstatic i, aux)) (hinv : ∀ (x y : Int32) (ph : pm_H), pm_inv K (pm_own K mj) (.invokestatic aux) [.null, .int x, .int y] ph = some (jp, [.int y, .int x, .null], [])) (hd : 1 ≤ d) (hr : ∀ (D : Nat) (x y : Int32) (ph : pm_H), ¬ y < 0 → y < x → pm_Rd KC false (D + 1) jp [.int y, .int x, .null] ph (some (.int y), ph, 0, 0)) (hg : xok X K KC E d mj (pc + 6) g) : xok X K KC E d mj pc (xmac g) := by
  intro D hD m hm n0 σ0 Fc cs ss k ρ G Q hB hk hρ S h σ L st ph hS
  unfold xmac at h
  split at h
  · next n A q p fs w F =>
    have hcond := (x_and h).1
    replace h := (x_and h).2
    obtain ⟨h1, h2⟩ := x_and hcond
    have h1 := zle_le h1
    have h2 := zle_le h2
    obtain ⟨g1, g2, g3, g4, g5, g6, g7, g8, g9⟩ := hS
    match st, g5 with
    | [v1, v2], ⟨⟨x, e1, gx⟩, ⟨y, e2, gy⟩, g5⟩ =>
      subst e1 e2
      have q1 := gx.2.2.1
      have q2 := gy.2.2.1
      have q3 := gy.2.2.2
      have n1 : ¬ y < 0 := by
        rw [Int32.lt_iff_toInt_lt]
        have h0 : (0 : Int32).toInt = 0 := rfl
        omega
      have n2 : y < x := by
        rw [Int32.lt_iff_toInt_lt]
        omega
      have hs : pm_step K false mj (pc, L, [.int x, .int y], ph, cs, ss) = some (.inr (.inl (jp, [.int y, .int x, .null], (pc + 6, L, [], ph, cs, ss)))) := by
        unfold pm_step
        simp only [hc]
        unfold pm_mac
        simp only [decide_eq_false n1, decide_eq_true n2, Bool.not_false, Bool.and_self, cond_true, hinv]
      obtain ⟨D', rfl⟩ : ∃ D', D = D' + 1 := ⟨D - 1, by omega⟩
      exact hB.2.1 _ _ _ _ _ _ _ _ _ _ _ _ hs (hr D' x y ph n1 n2) (hg _ hD m hm n0 σ0 Fc cs ss k ρ G Q hB hk hρ _ h σ L [.int y] ph ⟨g1, g2, g3, g4, ⟨xvI gy, trivial⟩, g6, g7, g8, g9⟩)
    | [_], ⟨_, g5⟩ => exact g5.elim
    | _ :: _ :: _ :: _, ⟨_, _, g5⟩ => exact g5.elim
  · cases h
end XMAC
theorem k8i (x y : Int32) (ph : pm_H) : pm_inv kK (pm_own kK 312) (.invokestatic 1059) [.null, .int x, .int y] ph = some (329, [.int y, .int x, .null], []) := by
  have e : pm_own kK 312 = 17 := by decide +kernel
  rw [e]
  exact k8inv .null x y [] ph (Or.inl rfl) (by decide)
theorem k8r (D : Nat) (x y : Int32) (ph : pm_H) (h0 : ¬ y < 0) (h1 : y < x) : pm_Rd kK false (D + 1) 329 [.int y, .int x, .null] ph (some (.int y), ph, 0, 0) := ⟨(k8run (C := pm_Rd kK false D) (al := false) (ph := ph) (Or.inl rfl) h0 h1).1, 7, (k8run (C := pm_Rd kK false D) (al := false) (ph := ph) (Or.inl rfl) h0 h1).2.2⟩
/-! By hand: the greatest common divisor -/
theorem xlrem_toInt (x y : Int64) : (x - x / y * y).toInt = x.toInt.tmod y.toInt := by
  have h1 : (x - x / y * y).toInt = (x.toInt.tmod y.toInt).bmod (2^64) := by
    rw [Int64.toInt_sub, Int64.toInt_mul, Int64.toInt_div]
    simp only [Int.sub_bmod_bmod, Int.bmod_mul_bmod]
    congr 1
    have := Int.tmod_add_tdiv_mul x.toInt y.toInt
    omega
  rw [h1]
  have a1 := x.toInt_lt
  have a2 := x.le_toInt
  have e := Int.natAbs_tmod x.toInt y.toInt
  have e2 := Nat.mod_le x.toInt.natAbs y.toInt.natAbs
  by_cases hx : 0 ≤ x.toInt
  · have := Int.tmod_nonneg y.toInt hx
    apply Int.bmod_eq_of_le <;> omega
  · have : x.toInt.tmod y.toInt ≤ 0 := by
      have := Int.tmod_nonneg (a := -x.toInt) y.toInt (by omega)
      rw [Int.neg_tmod] at this
      omega
    apply Int.bmod_eq_of_le <;> omega
theorem xhc_185 {pc : Nat} {e : Nat × Instr × Nat} (h : pm_tl kc_185 pc = some e) : pm_code kK 185 pc = some e := h
theorem xcommon0 {D : Nat} {a b : Int64} {ph : pm_H} (hb : b.toInt = 0) : pm_Rd kK false (D + 1) 185 [.long a, .long b] ph (some (.long a), ph, 0, 0) := by
  have hl : lg_cmp b 0 = 0 := Int32.toInt_inj.mp ((xcmp_lt b 0).2.mpr (by rw [hb]; rfl))
  refine ⟨rfl, 7, ?_⟩
  have he : pm_ent kK 185 [.long a, .long b] ph = (0, [some (.long a), none, some (.long b), none], [], ph, 0, 0) := rfl
  rw [he, pm_Tn, xs2 (xhc_185 (e := (2, .lload_n kF2, 0)) rfl) (v := .long b) (n := 1) rfl]
  simp only
  rw [pm_Tn, xs0 (xhc_185 (e := (0, .lconst kG0, 0)) rfl) (st' := [.long 0, .long b]) rfl]
  simp only
  rw [pm_Tn, xs0 (xhc_185 (e := (0, .lcmp, 0)) rfl) (st' := [.int 0]) (by rw [← hl]; rfl)]
  simp only
  rw [pm_Tn, xs4 (xhc_185 (e := (4, .ifCond .ne 7, 10)) rfl) (pc' := 6) (st' := []) rfl]
  simp only
  rw [pm_Tn, xs2 (xhc_185 (e := (2, .lload_n kF0, 0)) rfl) (v := .long a) (n := 1) rfl]
  simp only
  rw [pm_Tn, xs4 (xhc_185 (e := (4, .goto 10, 17)) rfl) (pc' := 17) (st' := [.long a]) rfl]
  simp only
  rw [pm_Tn, xs7 (xhc_185 (e := (7, .lreturn, 0)) rfl) (v := some (.long a)) rfl]
theorem xcommon1 {D : Nat} {a b g : Int64} {ph : pm_H} (hb : b.toInt ≠ 0) (h : pm_Rd kK false D 185 [.long b, .long (a - a / b * b)] ph (some (.long g), ph, 0, 0)) : pm_Rd kK false (D + 1) 185 [.long a, .long b] ph (some (.long g), ph, 0, 0) := by
  have hl : lg_cmp b 0 ≠ 0 := fun q => hb ((xcmp_lt b 0).2.mp (by rw [q]; rfl))
  have hinv : pm_inv kK (pm_own kK 185) (.invokestatic 7) [.long (a - a / b * b), .long b] ph = some (185, [.long b, .long (a - a / b * b)], []) := rfl
  refine ⟨rfl, 10, ?_⟩
  have he : pm_ent kK 185 [.long a, .long b] ph = (0, [some (.long a), none, some (.long b), none], [], ph, 0, 0) := rfl
  rw [he, pm_Tn, xs2 (xhc_185 (e := (2, .lload_n kF2, 0)) rfl) (v := .long b) (n := 1) rfl]
  simp only
  rw [pm_Tn, xs0 (xhc_185 (e := (0, .lconst kG0, 0)) rfl) (st' := [.long 0, .long b]) rfl]
  simp only
  rw [pm_Tn, xs0 (xhc_185 (e := (0, .lcmp, 0)) rfl) (st' := [.int (lg_cmp b 0)]) rfl]
  simp only
  rw [pm_Tn, xs4 (xhc_185 (e := (4, .ifCond .ne 7, 10)) rfl) (pc' := 10) (st' := []) (by show some (bif decide (lg_cmp b 0 = 0) then _ else _, _) = _; rw [decide_eq_false hl]; rfl)]
  simp only
  rw [pm_Tn, xs2 (xhc_185 (e := (2, .lload_n kF2, 0)) rfl) (v := .long b) (n := 1) rfl]
  simp only
  rw [pm_Tn, xs2 (xhc_185 (e := (2, .lload_n kF0, 0)) rfl) (v := .long a) (n := 1) rfl]
  simp only
  rw [pm_Tn, xs2 (xhc_185 (e := (2, .lload_n kF2, 0)) rfl) (v := .long b) (n := 1) rfl]
  simp only
  rw [pm_Tn, xs0 (xhc_185 (e := (0, .lrem, 0)) rfl) (xv_lrem a b [.long b] hb)]
  simp only
  rw [pm_Tn, xs6 (xhc_185 (e := (6, .invokestatic 7, 0)) rfl) hinv]
  simp only
  refine ⟨some (.long g), ph, 0, 0, h, ?_⟩
  rw [pm_Tn, xs7 (xhc_185 (e := (7, .lreturn, 0)) rfl) (v := some (.long g)) rfl]
theorem xcommon (ph : pm_H) : ∀ (n : Nat) (a b : Int64), b.toInt.natAbs < 2 ^ n → (a.toInt ≠ 0 ∨ b.toInt ≠ 0) → ∀ D, 2 * n + 1 ≤ D → ∃ g : Int64, g.toInt ≠ 0 ∧ pm_Rd kK false D 185 [.long a, .long b] ph (some (.long g), ph, 0, 0) := by
  intro n
  induction n with
  | zero =>
    intro a b hb hab D hD
    have hb0 : b.toInt = 0 := by rw [Nat.pow_zero] at hb; omega
    obtain ⟨D', rfl⟩ : ∃ D', D = D' + 1 := ⟨D - 1, by omega⟩
    exact ⟨a, by rcases hab with q | q; exact q; exact absurd hb0 q, xcommon0 hb0⟩
  | succ n ih =>
    intro a b hb hab D hD
    by_cases hb0 : b.toInt = 0
    · obtain ⟨D', rfl⟩ : ∃ D', D = D' + 1 := ⟨D - 1, by omega⟩
      exact ⟨a, by rcases hab with q | q; exact q; exact absurd hb0 q, xcommon0 hb0⟩
    · obtain ⟨D', rfl⟩ : ∃ D', D = D' + 2 := ⟨D - 2, by omega⟩
      have e1 := Int.natAbs_tmod a.toInt b.toInt
      rw [← xlrem_toInt] at e1
      have hlt : a.toInt.natAbs % b.toInt.natAbs < b.toInt.natAbs := Nat.mod_lt _ (by omega)
      generalize hr : a - a / b * b = r at e1
      by_cases hr0 : r.toInt.natAbs < 2 ^ n
      · obtain ⟨g, g1, g2⟩ := ih b r hr0 (Or.inl hb0) (D' + 1) (by omega)
        exact ⟨g, g1, xcommon1 hb0 (by rw [hr]; exact g2)⟩
      · have hrp : 0 < 2 ^ n := Nat.two_pow_pos n
        have hrne : r.toInt ≠ 0 := fun q => by rw [q] at hr0; exact hr0 hrp
        have e2 := Int.natAbs_tmod b.toInt r.toInt
        rw [← xlrem_toInt] at e2
        generalize hr2 : b - b / r * r = r2 at e2
        have hr2lt : r2.toInt.natAbs < 2 ^ n := by
          rw [Nat.pow_succ] at hb
          have hle : r.toInt.natAbs ≤ b.toInt.natAbs := by omega
          have hm := Nat.mod_eq_sub_mod hle
          have hm2 := Nat.mod_le (b.toInt.natAbs - r.toInt.natAbs) r.toInt.natAbs
          omega
        obtain ⟨g, g1, g2⟩ := ih r r2 hr2lt (Or.inl hrne) D' (by omega)
        exact ⟨g, g1, xcommon1 hb0 (by rw [hr]; exact xcommon1 hrne (by rw [hr2]; exact g2))⟩
noncomputable def xhand_185 : xc := fun as ρ S => match S with
  | (n, A, sa, fs, w, F) => bif xhsV xX as [.inr (.inl (Int.negSucc 9223372036854775807, Int.ofNat 9223372036854775807)), .inr (.inl (Int.ofNat 1, Int.ofNat 9223372036854775807))] then (bif ρ (some (.inr (.inl (n, 0, Int.ofNat 1, Int.ofNat 9223372036854775807)))) (n + 1, A, sa, fs, w, F) then ρ (some (.inr (.inl (n, 0, Int.negSucc 9223372036854775807, Int.negSucc 0)))) (n + 1, A, sa, fs, w, F) else false) else false
theorem xhando_185 {E : pm_H → Prop} : xcok xX kK E 130 185 xhand_185 := by
  intro D hD m hm n0 σ0 Fc L st ρ Q hρ as S hc σ ph vs hS hv
  obtain ⟨n, A, sa, fs, w, F⟩ := S
  unfold xhand_185 at hc
  simp only at hc
  have hpre := (x_and hc).1
  obtain ⟨hp, hq⟩ := x_and (x_and hc).2
  have hV := xhsV_ok hm hpre hv
  match vs, hV with
  | [v1, v2], ⟨⟨a, e1, a1, a2⟩, ⟨b, e2, b1, b2⟩, _⟩ =>
    subst e1 e2
    have c1 : (1 : Int) ≤ b.toInt := b1
    have c2 : b.toInt ≤ 9223372036854775807 := b2
    have c3 : b.toInt.natAbs ≤ 9223372036854775807 := by omega
    obtain ⟨g, g1, g2⟩ := xcommon ph 64 a b (Nat.lt_of_le_of_lt c3 (by decide)) (Or.inr (by omega)) D (by omega)
    refine ⟨_, _, g2, ?_⟩
    obtain ⟨h1, h2, h3, h4, h5, h6, h7, h8, h9⟩ := hS
    have u1 : ∀ t, t < n → xup σ n g.toInt t = σ t := fun t ht => xup_lt ht
    have hS2 : xg xX kK E m n0 σ0 (n + 1, A, sa, fs, w, F) (xup σ n g.toInt) L st ph Fc := ⟨by omega, fun t ht => by rw [u1 t (by omega)]; exact h2 t ht, h3, xlG_up u1 (by omega) h4, xsG_up u1 (by omega) h5, xfG_up u1 (by omega) h6, h7, xFG_up u1 (by omega) h8, h9⟩
    have l1 := g.toInt_lt
    have l2 := g.le_toInt
    rcases (show 1 ≤ g.toInt ∨ g.toInt ≤ -1 by omega) with q | q
    · exact hρ _ _ hp (xup σ n g.toInt) ph _ hS2 ⟨_, rfl, g, rfl, xfresh q (by show g.toInt ≤ 9223372036854775807; omega)⟩
    · exact hρ _ _ hq (xup σ n g.toInt) ph _ hS2 ⟨_, rfl, g, rfl, xfresh (by show -9223372036854775808 ≤ g.toInt; omega) q⟩
