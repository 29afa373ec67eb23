
/-! laysSteps, laysWay, by hand, printed by wip/x/h_lays.py -/
set_option maxRecDepth 6000 in
theorem xbes_all : (List.range 5).all (fun r => (List.range 5).all (fun c => xs_192 (xhmV 1 [.inr (.inr (.inl 0)), .inl (-1, 48), .inl (0, 7)]) (xrs0 xX (some (.inl (-1, (Int.ofNat ((r + 3) * (c + 3))) - 1))) []) (6, [], [], xhmF 4 [(696323, .inl (Int.ofNat (r + 3), Int.ofNat (r + 3))), (696324, .inl (Int.ofNat (c + 3), Int.ofNat (c + 3)))], 0, []))) = true := by decide +kernel
set_option maxRecDepth 6000 in
theorem xF2 {m : Int} {ph : pm_H} {k k2 : Nat} {x y : Int32} {lo hi lo2 hi2 : Int} (hk : xown (k / 4096) = some 0 ∧ k / 4096 = 170 ∧ k < 17592186044416) (hg : xget ph 170 (k % 4096) = some (.int x)) (h1 : lo ≤ x.toInt) (h2 : x.toInt ≤ hi) (hk2 : xown (k2 / 4096) = some 0 ∧ k2 / 4096 = 170 ∧ k2 < 17592186044416) (hg2 : xget ph 170 (k2 % 4096) = some (.int y)) (h3 : lo2 ≤ y.toInt) (h4 : y.toInt ≤ hi2) : xhF xX m ph [(k, .inl (lo, hi)), (k2, .inl (lo2, hi2))] := fun k' h' hm => by
  rcases List.mem_cons.mp hm with e | e
  · cases e
    exact xF1 hk hg h1 h2 _ _ List.mem_cons_self
  · exact xF1 hk2 hg2 h3 h4 _ _ e
set_option maxRecDepth 6000 in
theorem xbeside {m : Int} {w D Rn Cn : Nat} {f k R C : Int32} {ph : pm_H} (hm : m ≤ 2147483646) (hw : (w : Int) ≤ m) (hD : 5 ≤ D) (hP : xH xX kK m w ph) (hR : xget ph 170 3 = some (.int R)) (hC : xget ph 170 4 = some (.int C)) (eR : R.toInt = (Rn : Int)) (eC : C.toInt = (Cn : Int)) (r0 : 3 ≤ Rn) (r1 : Rn ≤ 7) (c0 : 3 ≤ Cn) (c1 : Cn ≤ 7) (f0 : -1 ≤ f.toInt) (f1 : f.toInt ≤ 48) (k0 : 0 ≤ k.toInt) (k1 : k.toInt ≤ 7) : ∃ v ph', pm_Rd kK false D 192 [.ref 170, .int f, .int k] ph (v, ph', 0, 0) ∧ (∃ z : Int32, v = some (.int z) ∧ ph' = ph ∧ -1 ≤ z.toInt ∧ z.toInt < ((Rn * Cn : Nat) : Int)) := by
  obtain ⟨r, rfl⟩ : ∃ r, Rn = r + 3 := ⟨Rn - 3, by omega⟩
  obtain ⟨c, rfl⟩ : ∃ c, Cn = c + 3 := ⟨Cn - 3, by omega⟩
  have hchk := List.all_eq_true.mp (List.all_eq_true.mp xbes_all r (List.mem_range.mpr (by omega))) c (List.mem_range.mpr (by omega))
  have hcon := xcok_con (E := fun p => p = ph) (W := 0) (pre := [.inr (.inr (.inl 0)), .inl (-1, 48), .inl (0, 7)]) (fp := [(696323, .inl (Int.ofNat (r + 3), Int.ofNat (r + 3))), (696324, .inl (Int.ofNat (c + 3), Int.ofNat (c + 3)))]) (fq := []) (res := some (.inl (-1, (Int.ofNat ((r + 3) * (c + 3))) - 1))) (xso_192) hchk
  obtain ⟨v, ph', q1, q2, q3, ⟨u, e, z, e2, z0, z1⟩, q5⟩ := xcon_go (w := w) hcon rfl rfl rfl rfl (Nat.le_trans (by decide) hD) hm hw (Nat.zero_le _) (vs := [.ref 170, .int f, .int k]) ⟨xaRi rfl (by decide), xaI f0 f1, xaI k0 k1, trivial⟩ (xF2 (by decide) hR (by rw [eR]; exact Int.le_refl _) (by rw [eR]; exact Int.le_refl _) (by decide) hC (by rw [eC]; exact Int.le_refl _) (by rw [eC]; exact Int.le_refl _)) hP rfl
  have z1 : z.toInt ≤ (((r + 3) * (c + 3) : Nat) : Int) - 1 := z1
  exact ⟨v, ph', q1, z, by rw [e, e2], q3, z0, by omega⟩
set_option maxRecDepth 6000 in
theorem xcnt_set (p : Int32 → Bool) : ∀ (l : List Int32) (k : Nat) (x y : Int32), l[k]? = some x → ((l.set k y).countP p : Int) = (l.countP p : Int) - (if p x = true then 1 else 0) + (if p y = true then 1 else 0) := by
  intro l
  induction l with
  | nil => intro k x y h; cases h
  | cons a l ih =>
    intro k x y h
    cases k with
    | zero =>
      have e : a = x := Option.some.inj h
      subst e
      show (((y :: l).countP p : Nat) : Int) = (((a :: l).countP p : Nat) : Int) - _ + _
      rw [List.countP_cons, List.countP_cons]
      by_cases h1 : p a = true <;> by_cases h2 : p y = true <;> simp only [h1, h2, if_true, if_false, Bool.false_eq_true] <;> omega
    | succ k =>
      have h : l[k]? = some x := h
      have := ih k x y h
      show (((a :: l.set k y).countP p : Nat) : Int) = (((a :: l).countP p : Nat) : Int) - _ + _
      rw [List.countP_cons, List.countP_cons]
      by_cases h1 : p a = true <;> simp only [h1, if_true, if_false, Bool.false_eq_true] <;> omega
def xfin (x : Int32) : Bool := x.toInt != 1000000
set_option maxRecDepth 6000 in
theorem xfin_t {x : Int32} (h : x.toInt ≠ 1000000) : xfin x = true := by unfold xfin; simp [h]
set_option maxRecDepth 6000 in
theorem xfin_f {x : Int32} (h : x.toInt = 1000000) : ¬ xfin x = true := by unfold xfin; simp [h]
/-- how far, so far -/
def xfar (N : Nat) (ph : pm_H) : Prop := ∃ l : List Int32, pm_at ph 192 = some (.inl (0, .inl l)) ∧ l.length = 49 ∧ ∀ (f : Nat) (x : Int32), f < N → l[f]? = some x → (x.toInt = 1000000 ∨ (0 ≤ x.toInt ∧ x.toInt + 1 ≤ ((l.take N).countP xfin : Int)))
set_option maxRecDepth 6000 in
theorem xu1_list {ph ph' : pm_H} {A k : Nat} {y : Int32} {l l' : List Int32} (h : pm_at ph A = some (.inl (0, .inl l))) (h' : pm_at ph' A = some (.inl (0, .inl l'))) (hl : l'.length = l.length) (hk : k < l.length) (u : xu1 ph ph' A k (.int y)) : l' = l.set k y := by
  apply List.ext_getElem?
  intro i
  have gl : ∀ i, xget ph A i = (l[i]?).map Value.int := fun i => by unfold xget; rw [h]; rfl
  have gl' : ∀ i, xget ph' A i = (l'[i]?).map Value.int := fun i => by unfold xget; rw [h']; rfl
  have inj : ∀ (a b : Option Int32), a.map Value.int = b.map Value.int → a = b := fun a b q => by
    cases a with
    | none => cases b with | none => rfl | some _ => cases q
    | some a => cases b with
      | none => cases q
      | some b => cases q; rfl
  by_cases e : i = k
  · subst e
    rw [List.getElem?_set_self hk]
    apply inj
    rw [← gl' i]
    exact u.1
  · rw [List.getElem?_set_ne (Ne.symm e)]
    apply inj
    rw [← gl' i, ← gl i]
    exact u.2.1 A i (fun q => e q.2)
set_option maxRecDepth 6000 in
theorem xfar_set {N f : Nat} {ph ph' : pm_H} {x y z : Int32} {m : Int} {w g : Nat} (hN : N ≤ 49) (hP' : xH xX kK m w ph') (h : xfar N ph) (hf : f < N) (hg : g < N) (hx : xget ph 192 f = some (.int x)) (hz : xget ph 192 g = some (.int z)) (u : xu1 ph ph' 192 f (.int y)) (hy : y.toInt = min x.toInt (z.toInt + 1)) : xfar N ph' := by
  obtain ⟨l, hat, hlen, hI⟩ := h
  obtain ⟨l', hat', hlen', -⟩ := xA_at (A := 192) hP' rfl rfl
  have e := xu1_list hat hat' (by omega) (by omega) u
  have gl : ∀ i v, xget ph 192 i = some (.int v) → l[i]? = some v := fun i v q => by
    unfold xget at q
    rw [hat] at q
    have q : (l[i]?).map Value.int = some (.int v) := q
    cases hq : l[i]? with
    | none => rw [hq] at q; cases q
    | some a => rw [hq] at q; cases q; rfl
  have lx := gl f x hx
  have lz := gl g z hz
  have Ix := hI f x hf lx
  have Iz := hI g z hg lz
  have tx : (l.take N)[f]? = some x := by rw [List.getElem?_take_of_lt hf]; exact lx
  have hc := xcnt_set xfin (l.take N) f x y tx
  have ets : (l.set f y).take N = (l.take N).set f y := List.take_set
  refine ⟨l', hat', hlen', fun i v hi hv => ?_⟩
  rw [e] at hv ⊢
  rw [ets]
  by_cases ei : i = f
  · subst ei
    rw [List.getElem?_set_self (by omega)] at hv
    cases hv
    rcases Ix with h1 | ⟨h1, h2⟩
    · rcases Iz with h3 | ⟨h3, h4⟩
      · left; omega
      · right
        have hyf : y.toInt ≠ 1000000 := by
          have hcl : ((l.take N).countP xfin : Int) ≤ 49 := by
            have := List.countP_le_length (p := xfin) (l := l.take N)
            rw [List.length_take] at this
            omega
          omega
        rw [if_neg (xfin_f h1), if_pos (xfin_t hyf)] at hc
        have hcl : ((l.take N).countP xfin : Int) ≤ 49 := by
          have := List.countP_le_length (p := xfin) (l := l.take N)
          rw [List.length_take] at this
          omega
        omega
    · have hcl : ((l.take N).countP xfin : Int) ≤ 49 := by
        have := List.countP_le_length (p := xfin) (l := l.take N)
        rw [List.length_take] at this
        omega
      rw [if_pos (xfin_t (x := x) (by omega))] at hc
      right
      rcases Iz with h3 | ⟨h3, h4⟩
      · rw [if_pos (xfin_t (x := y) (by omega))] at hc
        omega
      · rw [if_pos (xfin_t (x := y) (by omega))] at hc
        omega
  · rw [List.getElem?_set_ne (Ne.symm ei)] at hv
    rcases hI i v hi hv with h1 | ⟨h1, h2⟩
    · exact Or.inl h1
    · right
      refine ⟨h1, ?_⟩
      have hcl : ((l.take N).countP xfin : Int) ≤ 49 := by
        have := List.countP_le_length (p := xfin) (l := l.take N)
        rw [List.length_take] at this
        omega
      rcases Ix with q1 | ⟨q1, q2⟩
      · rw [if_neg (xfin_f q1)] at hc
        by_cases hy9 : xfin y = true
        · rw [if_pos hy9] at hc; omega
        · rw [if_neg hy9] at hc; omega
      · rw [if_pos (xfin_t (x := x) (by omega))] at hc
        have hyf : y.toInt ≠ 1000000 := by
          rcases Iz with h3 | ⟨h3, h4⟩ <;> omega
        rw [if_pos (xfin_t hyf)] at hc
        omega
set_option maxRecDepth 6000 in
/-- what a cell of it is -/
theorem xfar_get {N f : Nat} {ph : pm_H} {x : Int32} (hN : N ≤ 49) (h : xfar N ph) (hf : f < N) (hx : xget ph 192 f = some (.int x)) : x.toInt = 1000000 ∨ (0 ≤ x.toInt ∧ x.toInt ≤ 48) := by
  obtain ⟨l, hat, hlen, hI⟩ := h
  have lx : l[f]? = some x := by
    unfold xget at hx
    rw [hat] at hx
    have q : (l[f]?).map Value.int = some (.int x) := hx
    cases hq : l[f]? with
    | none => rw [hq] at q; cases q
    | some a => rw [hq] at q; cases q; rfl
  have hcl : ((l.take N).countP xfin : Int) ≤ 49 := by
    have := List.countP_le_length (p := xfin) (l := l.take N)
    rw [List.length_take] at this
    omega
  rcases hI f x hf lx with h1 | h1
  · exact Or.inl h1
  · exact Or.inr (by omega)
set_option maxRecDepth 6000 in
theorem xfar_same {N f : Nat} {ph ph' : pm_H} {x : Int32} {m : Int} {w : Nat} (hN : N ≤ 49) (hP' : xH xX kK m w ph') (h : xfar N ph) (hf : f < N) (hx : xget ph 192 f = some (.int x)) (u : xu1 ph ph' 192 f (.int x)) : xfar N ph' := by
  obtain ⟨l, hat, hlen, hI⟩ := h
  obtain ⟨l', hat', hlen', -⟩ := xA_at (A := 192) hP' rfl rfl
  have e := xu1_list hat hat' (by omega) (by omega) u
  have lx : l[f]? = some x := by
    unfold xget at hx
    rw [hat] at hx
    have q : (l[f]?).map Value.int = some (.int x) := hx
    cases hq : l[f]? with
    | none => rw [hq] at q; cases q
    | some a => rw [hq] at q; cases q; rfl
  have e2 : l.set f x = l := by
    apply List.ext_getElem?
    intro i
    by_cases ei : i = f
    · subst ei; rw [List.getElem?_set_self (by omega), lx]
    · rw [List.getElem?_set_ne (Ne.symm ei)]
  rw [e2] at e
  subst e
  exact ⟨l', hat', hlen', hI⟩

set_option maxRecDepth 6000 in
theorem xfields {m : Int} {w D Rn Cn : Nat} {R C : Int32} {ph : pm_H} (hP : xH xX kK m w ph) (hR : xget ph 170 3 = some (.int R)) (hC : xget ph 170 4 = some (.int C)) (eR : R.toInt = (Rn : Int)) (eC : C.toInt = (Cn : Int)) (r1 : Rn ≤ 7) (c1 : Cn ≤ 7) : ∃ v ph', pm_Rd kK false (D + 1) 188 [.ref 170] ph (v, ph', 0, 0) ∧ (∃ z : Int32, v = some (.int z) ∧ ph' = ph ∧ z.toInt = ((Rn * Cn : Nat) : Int)) := by
  have hb : Rn * Cn ≤ 7 * 7 := Nat.mul_le_mul r1 c1
  have hb2 : ((Rn : Int) * (Cn : Int)) = ((Rn * Cn : Nat) : Int) := (Int.natCast_mul Rn Cn).symm
  refine xRd_mk (nl := 1) rfl rfl ?_
  show xGT kK D 188 _ (0, [some (.ref 170)], [], ph, 0, 0)
  refine gt_load (v := .ref 170) (n := 1) (ykc_188 (e := (2, .aload_n kF0, 0)) rfl) rfl rfl ?_
  refine gt_gfk (v := .int R) (ykc_188 (e := (5, .getfield 24, 0)) rfl) rfl hP hR rfl ?_
  refine gt_load (v := .ref 170) (n := 1) (ykc_188 (e := (2, .aload_n kF0, 0)) rfl) rfl rfl ?_
  refine gt_gfk (v := .int C) (ykc_188 (e := (5, .getfield 27, 0)) rfl) rfl hP hC rfl ?_
  obtain ⟨z, e_z, h_z⟩ : ∃ zq : Int32, R * C = zq ∧ zq.toInt = ((Rn * Cn : Nat) : Int) := ⟨_, rfl, by rw [ti_mul (by rw [eR, eC, hb2]; omega) (by rw [eR, eC, hb2]; omega), eR, eC]; exact (Int.natCast_mul Rn Cn).symm⟩
  refine gt_alu (st' := [.int z]) (ykc_188 (e := (0, .imul, 0)) rfl) (by rw [← e_z]; exact rfl) rfl ?_
  refine gt_ret (ykc_188 (e := (7, .ireturn, 0)) rfl) rfl ?_
  exact ⟨z, rfl, rfl, h_z⟩

set_option maxRecDepth 6000 in
theorem xmin_i {x s y : Int32} {z : Int} (e : (if s < x then s else x) = y) (h : s.toInt = z + 1) : y.toInt = min x.toInt (z + 1) := by
  by_cases q : s < x
  · rw [if_pos q] at e
    subst e
    have := x32lt.mp q
    omega
  · rw [if_neg q] at e
    subst e
    have : ¬ s.toInt < x.toInt := fun r => q (x32lt.mpr r)
    omega
set_option maxRecDepth 6000 in
theorem xlays_w {E : pm_H → Prop} (hE : xHE xX xgA_G97 xgF_G97 E) {m : Int} {w D Rn Cn : Nat} {R C fr goal : Int32} {over : Int64} {Q : Option Value → pm_H → Prop} (hm : m ≤ 2147483646) (hw : (w : Int) ≤ m) (hD : 5 ≤ D) (eR : R.toInt = (Rn : Int)) (eC : C.toInt = (Cn : Int)) (r0 : 3 ≤ Rn) (r1 : Rn ≤ 7) (c0 : 3 ≤ Cn) (c1 : Cn ≤ 7) {f : Int32} (hf0 : 0 ≤ f.toInt) (hf1 : f.toInt < ((Rn * Cn : Nat) : Int)) {n0 : Int32} (kk : ∀ (k : Int32) (o8 o9 : Option Value) (ph : pm_H), xH xX kK m w ph → E ph → xget ph 170 3 = some (.int R) → xget ph 170 4 = some (.int C) → xfar (Rn * Cn) ph → xGT kK D 279 Q (171, [some (.ref 170), some (.int fr), some (.int goal), some (.long over), none, some (.int n0), some (.int f), some (.int k), o8, o9], [], ph, 0, 0)) : ∀ (s : Nat) (k : Int32) (o8 o9 : Option Value) (ph : pm_H), xH xX kK m w ph → E ph → xget ph 170 3 = some (.int R) → xget ph 170 4 = some (.int C) → xfar (Rn * Cn) ph → 0 ≤ k.toInt → 8 ≤ k.toInt + s → xGT kK D 279 Q (65, [some (.ref 170), some (.int fr), some (.int goal), some (.long over), none, some (.int n0), some (.int f), some (.int k), o8, o9], [], ph, 0, 0) := by
  obtain ⟨D', rfl⟩ : ∃ D', D = D' + 1 := ⟨D - 1, by omega⟩
  have hN : Rn * Cn ≤ 49 := Nat.mul_le_mul r1 c1
  intro s
  induction s with
  | zero =>
    intro k o8 o9 ph hP g9 hR hC hfar hk0 hks
    refine gt_load (v := .int k) (n := 2) (ykc_279 (e := (2, .iload 7, 0)) rfl) rfl rfl ?_
    refine gt_push (v := .int ((Int8.ofInt 8).toInt32)) (n := 2) (ykc_279 (e := (1, .bipush 8, 0)) rfl) rfl rfl ?_
    refine gt_ige_t (ykc_279 (e := (4, .if_icmp .ge 102, 171)) rfl) (by rw [xc8]; omega) ?_
    exact kk _ _ _ _ hP g9 hR hC hfar
  | succ s ih =>
    intro k o8 o9 ph hP g9 hR hC hfar hk0 hks
    by_cases hk8 : 8 ≤ k.toInt
    · refine gt_load (v := .int k) (n := 2) (ykc_279 (e := (2, .iload 7, 0)) rfl) rfl rfl ?_
      refine gt_push (v := .int ((Int8.ofInt 8).toInt32)) (n := 2) (ykc_279 (e := (1, .bipush 8, 0)) rfl) rfl rfl ?_
      refine gt_ige_t (ykc_279 (e := (4, .if_icmp .ge 102, 171)) rfl) (by rw [xc8]; omega) ?_
      exact kk _ _ _ _ hP g9 hR hC hfar
    refine gt_load (v := .int k) (n := 2) (ykc_279 (e := (2, .iload 7, 0)) rfl) rfl rfl ?_
    refine gt_push (v := .int ((Int8.ofInt 8).toInt32)) (n := 2) (ykc_279 (e := (1, .bipush 8, 0)) rfl) rfl rfl ?_
    refine gt_ige_f (ykc_279 (e := (4, .if_icmp .ge 102, 171)) rfl) (by rw [xc8]; omega) rfl ?_
    refine gt_load (v := .ref 170) (n := 1) (ykc_279 (e := (2, .aload_n kF0, 0)) rfl) rfl rfl ?_
    refine gt_load (v := .int f) (n := 2) (ykc_279 (e := (2, .iload 6, 0)) rfl) rfl rfl ?_
    refine gt_load (v := .int k) (n := 2) (ykc_279 (e := (2, .iload 7, 0)) rfl) rfl rfl ?_
    refine gt_cv (n := 2) (as := [.ref 170, .int f, .int k]) (r := []) (ykc_279 (e := (6, .invokevirtual 353, 0)) rfl) rfl hP rfl rfl rfl (xbeside hm hw (by omega) hP hR hC eR eC r0 r1 c0 c1 (by omega) (by omega) (by omega) (by omega)) rfl (fun vv ph101 hv => ?_)
    obtain ⟨g, e9, e8, g0, g1⟩ := hv; subst e9; have e7 := e8.symm; subst e7
    change xGT kK (D' + 1) 279 Q (80, [some (.ref 170), some (.int fr), some (.int goal), some (.long over), none, some (.int n0), some (.int f), some (.int k), o8, o9], [.int g], ph, 0, 0)
    refine gt_store (L' := [some (.ref 170), some (.int fr), some (.int goal), some (.long over), none, some (.int n0), some (.int f), some (.int k), some (.int g), o9]) (st' := []) (n := 2) (ykc_279 (e := (3, .istore 8, 0)) rfl) rfl rfl ?_
    refine gt_load (v := .int g) (n := 2) (ykc_279 (e := (2, .iload 8, 0)) rfl) rfl rfl ?_
    by_cases hg : g.toInt < 0
    · refine gt_zlt_t (ykc_279 (e := (4, .ifCond .lt 37, 121)) rfl) hg ?_
      refine gt_alu (st' := [.int (Int32.ofInt 0)]) (ykc_279 (e := (0, .iconst 0, 0)) rfl) rfl rfl ?_
      refine gt_store (L' := [some (.ref 170), some (.int fr), some (.int goal), some (.long over), none, some (.int n0), some (.int f), some (.int k), some (.int g), some (.int (Int32.ofInt 0))]) (st' := []) (n := 2) (ykc_279 (e := (3, .istore 9, 0)) rfl) rfl rfl ?_
      refine gt_load (v := .ref 170) (n := 1) (ykc_279 (e := (2, .aload_n kF0, 0)) rfl) rfl rfl ?_
      refine gt_gfr (A := 192) (ykc_279 (e := (5, .getfield 95, 0)) rfl) rfl hP rfl rfl rfl ?_
      refine gt_load (v := .int f) (n := 2) (ykc_279 (e := (2, .iload 6, 0)) rfl) rfl rfl ?_
      refine gt_load (v := .int (Int32.ofInt 0)) (n := 2) (ykc_279 (e := (2, .iload 9, 0)) rfl) rfl rfl ?_
      refine gt_zeq_t (ykc_279 (e := (4, .ifCond .eq 25, 157)) rfl) (by decide) ?_
      refine gt_load (v := .ref 170) (n := 1) (ykc_279 (e := (2, .aload_n kF0, 0)) rfl) rfl rfl ?_
      refine gt_gfr (A := 192) (ykc_279 (e := (5, .getfield 95, 0)) rfl) rfl hP rfl rfl rfl ?_
      refine gt_load (v := .int f) (n := 2) (ykc_279 (e := (2, .iload 6, 0)) rfl) rfl rfl ?_
      refine gt_ial (A := 192) (ykc_279 (e := (5, .iaload, 0)) rfl) hP rfl rfl (by omega) (by omega) rfl (fun x g_x b_x => ?_)
      refine gt_ias (A := 192) (y := x) (x := f) (ykc_279 (e := (5, .iastore, 0)) rfl) hP rfl rfl (by omega) (by omega) xany rfl (fun ph202 hP202 u202 => ?_)
      have f202_3 : xget ph202 170 3 = some (.int R) := (u202.2.1 170 3 (fun q => absurd q.1 (by decide))).trans hR
      have f202_4 : xget ph202 170 4 = some (.int C) := (u202.2.1 170 4 (fun q => absurd q.1 (by decide))).trans hC
      obtain ⟨k1, e_k1, h_k1⟩ : ∃ zq : Int32, k + Int32.ofInt 1 = zq ∧ zq.toInt = k.toInt + 1 := ⟨_, rfl, by rw [ti_add (by rw [xi1]; omega) (by rw [xi1]; omega), xi1]⟩
      refine gt_store (L' := [some (.ref 170), some (.int fr), some (.int goal), some (.long over), none, some (.int n0), some (.int f), some (.int k1), some (.int g), some (.int (Int32.ofInt 0))]) (st' := []) (n := 3) (ykc_279 (e := (3, .iinc 7 1, 0)) rfl) (by rw [← e_k1]; rfl) rfl ?_
      refine gt_br (pc' := 65) (st' := []) (ykc_279 (e := (4, .goto (-103), 65)) rfl) rfl ?_
      exact ih k1 _ _ ph202 hP202 (xu1_E hE u202 rfl rfl rfl g9) ((u202.2.1 170 3 (fun q => absurd q.1 (by decide))).trans hR) ((u202.2.1 170 4 (fun q => absurd q.1 (by decide))).trans hC) (xfar_same hN hP202 hfar (by omega) g_x u202) (by omega) (by omega)
    · refine gt_zlt_f (ykc_279 (e := (4, .ifCond .lt 37, 121)) rfl) (by omega) rfl ?_
      refine gt_load (v := .int f) (n := 2) (ykc_279 (e := (2, .iload 6, 0)) rfl) rfl rfl ?_
      refine gt_load (v := .int fr) (n := 1) (ykc_279 (e := (2, .iload_n kF1, 0)) rfl) rfl rfl ?_
      by_cases hff : f.toInt = fr.toInt
      · refine gt_ieq_t (ykc_279 (e := (4, .if_icmp .eq 12, 102)) rfl) hff ?_
        refine gt_load (v := .int g) (n := 2) (ykc_279 (e := (2, .iload 8, 0)) rfl) rfl rfl ?_
        refine gt_load (v := .int goal) (n := 1) (ykc_279 (e := (2, .iload_n kF2, 0)) rfl) rfl rfl ?_
        by_cases hgg : g.toInt = goal.toInt
        · refine gt_ieq_t (ykc_279 (e := (4, .if_icmp .eq 12, 117)) rfl) hgg ?_
          refine gt_alu (st' := [.int (Int32.ofInt 1)]) (ykc_279 (e := (0, .iconst 1, 0)) rfl) rfl rfl ?_
          refine gt_br (pc' := 122) (st' := [.int (Int32.ofInt 1)]) (ykc_279 (e := (4, .goto 4, 122)) rfl) rfl ?_
          refine gt_store (L' := [some (.ref 170), some (.int fr), some (.int goal), some (.long over), none, some (.int n0), some (.int f), some (.int k), some (.int g), some (.int (Int32.ofInt 1))]) (st' := []) (n := 2) (ykc_279 (e := (3, .istore 9, 0)) rfl) rfl rfl ?_
          refine gt_load (v := .ref 170) (n := 1) (ykc_279 (e := (2, .aload_n kF0, 0)) rfl) rfl rfl ?_
          refine gt_gfr (A := 192) (ykc_279 (e := (5, .getfield 95, 0)) rfl) rfl hP rfl rfl rfl ?_
          refine gt_load (v := .int f) (n := 2) (ykc_279 (e := (2, .iload 6, 0)) rfl) rfl rfl ?_
          refine gt_load (v := .int (Int32.ofInt 1)) (n := 2) (ykc_279 (e := (2, .iload 9, 0)) rfl) rfl rfl ?_
          refine gt_zeq_f (ykc_279 (e := (4, .ifCond .eq 25, 157)) rfl) (by decide) rfl ?_
          refine gt_load (v := .ref 170) (n := 1) (ykc_279 (e := (2, .aload_n kF0, 0)) rfl) rfl rfl ?_
          refine gt_gfr (A := 192) (ykc_279 (e := (5, .getfield 95, 0)) rfl) rfl hP rfl rfl rfl ?_
          refine gt_load (v := .int f) (n := 2) (ykc_279 (e := (2, .iload 6, 0)) rfl) rfl rfl ?_
          refine gt_ial (A := 192) (ykc_279 (e := (5, .iaload, 0)) rfl) hP rfl rfl (by omega) (by omega) rfl (fun x g_x b_x => ?_)
          refine gt_load (v := .ref 170) (n := 1) (ykc_279 (e := (2, .aload_n kF0, 0)) rfl) rfl rfl ?_
          refine gt_gfr (A := 192) (ykc_279 (e := (5, .getfield 95, 0)) rfl) rfl hP rfl rfl rfl ?_
          refine gt_load (v := .int g) (n := 2) (ykc_279 (e := (2, .iload 8, 0)) rfl) rfl rfl ?_
          refine gt_ial (A := 192) (ykc_279 (e := (5, .iaload, 0)) rfl) hP rfl rfl (by omega) (by omega) rfl (fun z g_z b_z => ?_)
          have hz9 := xfar_get hN hfar (show g.toInt.toNat < Rn * Cn by omega) g_z
          refine gt_alu (st' := [.int (Int32.ofInt 1), .int z, .int x, .int f, .ref 192]) (ykc_279 (e := (0, .iconst 1, 0)) rfl) rfl rfl ?_
          obtain ⟨s, e_s, h_s⟩ : ∃ zq : Int32, z + (Int32.ofInt 1) = zq ∧ zq.toInt = z.toInt + 1 := ⟨_, rfl, by rw [ti_add (by rw [xi1]; omega) (by rw [xi1]; omega), xi1]⟩
          refine gt_alu (st' := [.int s, .int x, .int f, .ref 192]) (ykc_279 (e := (0, .iadd, 0)) rfl) (by rw [← e_s]; exact rfl) rfl ?_
          obtain ⟨y, e_y⟩ : ∃ zq : Int32, (if s < x then s else x) = zq := ⟨_, rfl⟩
          refine gt_mem (n := 3) (st' := [.int y, .int f, .ref 192]) (ph' := ph) (ykc_279 (e := (5, .invokestatic 145, 0)) rfl) (by rw [← e_y]; rfl) rfl ?_
          refine gt_br (pc' := 164) (st' := [.int y, .int f, .ref 192]) (ykc_279 (e := (4, .goto 10, 164)) rfl) rfl ?_
          refine gt_ias (A := 192) (y := y) (x := f) (ykc_279 (e := (5, .iastore, 0)) rfl) hP rfl rfl (by omega) (by omega) xany rfl (fun ph402 hP402 u402 => ?_)
          have f402_3 : xget ph402 170 3 = some (.int R) := (u402.2.1 170 3 (fun q => absurd q.1 (by decide))).trans hR
          have f402_4 : xget ph402 170 4 = some (.int C) := (u402.2.1 170 4 (fun q => absurd q.1 (by decide))).trans hC
          obtain ⟨k1, e_k1, h_k1⟩ : ∃ zq : Int32, k + Int32.ofInt 1 = zq ∧ zq.toInt = k.toInt + 1 := ⟨_, rfl, by rw [ti_add (by rw [xi1]; omega) (by rw [xi1]; omega), xi1]⟩
          refine gt_store (L' := [some (.ref 170), some (.int fr), some (.int goal), some (.long over), none, some (.int n0), some (.int f), some (.int k1), some (.int g), some (.int (Int32.ofInt 1))]) (st' := []) (n := 3) (ykc_279 (e := (3, .iinc 7 1, 0)) rfl) (by rw [← e_k1]; rfl) rfl ?_
          refine gt_br (pc' := 65) (st' := []) (ykc_279 (e := (4, .goto (-103), 65)) rfl) rfl ?_
          exact ih k1 _ _ ph402 hP402 (xu1_E hE u402 rfl rfl rfl g9) ((u402.2.1 170 3 (fun q => absurd q.1 (by decide))).trans hR) ((u402.2.1 170 4 (fun q => absurd q.1 (by decide))).trans hC) (xfar_set hN hP402 hfar (by omega) (show g.toInt.toNat < Rn * Cn by omega) g_x g_z u402 (xmin_i e_y h_s)) (by omega) (by omega)
        · refine gt_ieq_f (ykc_279 (e := (4, .if_icmp .eq 12, 117)) rfl) hgg rfl ?_
          refine gt_load (v := .long over) (n := 1) (ykc_279 (e := (2, .lload_n kF3, 0)) rfl) rfl rfl ?_
          refine gt_load (v := .int g) (n := 2) (ykc_279 (e := (2, .iload 8, 0)) rfl) rfl rfl ?_
          refine gt_cs (n := 2) (as := [.long over, .int g]) (r := []) (ykc_279 (e := (6, .invokestatic 304, 0)) rfl) rfl rfl rfl rfl (xhas_run (D := D')) rfl (fun vv ph402 hv => ?_)
          obtain ⟨z2, e9, e8, z2_s⟩ := hv; subst e9; have e7 := e8.symm; subst e7
          change xGT kK (D' + 1) 279 Q (114, [some (.ref 170), some (.int fr), some (.int goal), some (.long over), none, some (.int n0), some (.int f), some (.int k), some (.int g), o9], [.int z2], ph, 0, 0)
          by_cases hz2 : z2.toInt = 0
          · refine gt_zeq_t (ykc_279 (e := (4, .ifCond .eq 7, 121)) rfl) hz2 ?_
            refine gt_alu (st' := [.int (Int32.ofInt 0)]) (ykc_279 (e := (0, .iconst 0, 0)) rfl) rfl rfl ?_
            refine gt_store (L' := [some (.ref 170), some (.int fr), some (.int goal), some (.long over), none, some (.int n0), some (.int f), some (.int k), some (.int g), some (.int (Int32.ofInt 0))]) (st' := []) (n := 2) (ykc_279 (e := (3, .istore 9, 0)) rfl) rfl rfl ?_
            refine gt_load (v := .ref 170) (n := 1) (ykc_279 (e := (2, .aload_n kF0, 0)) rfl) rfl rfl ?_
            refine gt_gfr (A := 192) (ykc_279 (e := (5, .getfield 95, 0)) rfl) rfl hP rfl rfl rfl ?_
            refine gt_load (v := .int f) (n := 2) (ykc_279 (e := (2, .iload 6, 0)) rfl) rfl rfl ?_
            refine gt_load (v := .int (Int32.ofInt 0)) (n := 2) (ykc_279 (e := (2, .iload 9, 0)) rfl) rfl rfl ?_
            refine gt_zeq_t (ykc_279 (e := (4, .ifCond .eq 25, 157)) rfl) (by decide) ?_
            refine gt_load (v := .ref 170) (n := 1) (ykc_279 (e := (2, .aload_n kF0, 0)) rfl) rfl rfl ?_
            refine gt_gfr (A := 192) (ykc_279 (e := (5, .getfield 95, 0)) rfl) rfl hP rfl rfl rfl ?_
            refine gt_load (v := .int f) (n := 2) (ykc_279 (e := (2, .iload 6, 0)) rfl) rfl rfl ?_
            refine gt_ial (A := 192) (ykc_279 (e := (5, .iaload, 0)) rfl) hP rfl rfl (by omega) (by omega) rfl (fun x g_x b_x => ?_)
            refine gt_ias (A := 192) (y := x) (x := f) (ykc_279 (e := (5, .iastore, 0)) rfl) hP rfl rfl (by omega) (by omega) xany rfl (fun ph503 hP503 u503 => ?_)
            have f503_3 : xget ph503 170 3 = some (.int R) := (u503.2.1 170 3 (fun q => absurd q.1 (by decide))).trans hR
            have f503_4 : xget ph503 170 4 = some (.int C) := (u503.2.1 170 4 (fun q => absurd q.1 (by decide))).trans hC
            obtain ⟨k1, e_k1, h_k1⟩ : ∃ zq : Int32, k + Int32.ofInt 1 = zq ∧ zq.toInt = k.toInt + 1 := ⟨_, rfl, by rw [ti_add (by rw [xi1]; omega) (by rw [xi1]; omega), xi1]⟩
            refine gt_store (L' := [some (.ref 170), some (.int fr), some (.int goal), some (.long over), none, some (.int n0), some (.int f), some (.int k1), some (.int g), some (.int (Int32.ofInt 0))]) (st' := []) (n := 3) (ykc_279 (e := (3, .iinc 7 1, 0)) rfl) (by rw [← e_k1]; rfl) rfl ?_
            refine gt_br (pc' := 65) (st' := []) (ykc_279 (e := (4, .goto (-103), 65)) rfl) rfl ?_
            exact ih k1 _ _ ph503 hP503 (xu1_E hE u503 rfl rfl rfl g9) ((u503.2.1 170 3 (fun q => absurd q.1 (by decide))).trans hR) ((u503.2.1 170 4 (fun q => absurd q.1 (by decide))).trans hC) (xfar_same hN hP503 hfar (by omega) g_x u503) (by omega) (by omega)
          · refine gt_zeq_f (ykc_279 (e := (4, .ifCond .eq 7, 121)) rfl) hz2 rfl ?_
            refine gt_alu (st' := [.int (Int32.ofInt 1)]) (ykc_279 (e := (0, .iconst 1, 0)) rfl) rfl rfl ?_
            refine gt_br (pc' := 122) (st' := [.int (Int32.ofInt 1)]) (ykc_279 (e := (4, .goto 4, 122)) rfl) rfl ?_
            refine gt_store (L' := [some (.ref 170), some (.int fr), some (.int goal), some (.long over), none, some (.int n0), some (.int f), some (.int k), some (.int g), some (.int (Int32.ofInt 1))]) (st' := []) (n := 2) (ykc_279 (e := (3, .istore 9, 0)) rfl) rfl rfl ?_
            refine gt_load (v := .ref 170) (n := 1) (ykc_279 (e := (2, .aload_n kF0, 0)) rfl) rfl rfl ?_
            refine gt_gfr (A := 192) (ykc_279 (e := (5, .getfield 95, 0)) rfl) rfl hP rfl rfl rfl ?_
            refine gt_load (v := .int f) (n := 2) (ykc_279 (e := (2, .iload 6, 0)) rfl) rfl rfl ?_
            refine gt_load (v := .int (Int32.ofInt 1)) (n := 2) (ykc_279 (e := (2, .iload 9, 0)) rfl) rfl rfl ?_
            refine gt_zeq_f (ykc_279 (e := (4, .ifCond .eq 25, 157)) rfl) (by decide) rfl ?_
            refine gt_load (v := .ref 170) (n := 1) (ykc_279 (e := (2, .aload_n kF0, 0)) rfl) rfl rfl ?_
            refine gt_gfr (A := 192) (ykc_279 (e := (5, .getfield 95, 0)) rfl) rfl hP rfl rfl rfl ?_
            refine gt_load (v := .int f) (n := 2) (ykc_279 (e := (2, .iload 6, 0)) rfl) rfl rfl ?_
            refine gt_ial (A := 192) (ykc_279 (e := (5, .iaload, 0)) rfl) hP rfl rfl (by omega) (by omega) rfl (fun x g_x b_x => ?_)
            refine gt_load (v := .ref 170) (n := 1) (ykc_279 (e := (2, .aload_n kF0, 0)) rfl) rfl rfl ?_
            refine gt_gfr (A := 192) (ykc_279 (e := (5, .getfield 95, 0)) rfl) rfl hP rfl rfl rfl ?_
            refine gt_load (v := .int g) (n := 2) (ykc_279 (e := (2, .iload 8, 0)) rfl) rfl rfl ?_
            refine gt_ial (A := 192) (ykc_279 (e := (5, .iaload, 0)) rfl) hP rfl rfl (by omega) (by omega) rfl (fun z g_z b_z => ?_)
            have hz9 := xfar_get hN hfar (show g.toInt.toNat < Rn * Cn by omega) g_z
            refine gt_alu (st' := [.int (Int32.ofInt 1), .int z, .int x, .int f, .ref 192]) (ykc_279 (e := (0, .iconst 1, 0)) rfl) rfl rfl ?_
            obtain ⟨s, e_s, h_s⟩ : ∃ zq : Int32, z + (Int32.ofInt 1) = zq ∧ zq.toInt = z.toInt + 1 := ⟨_, rfl, by rw [ti_add (by rw [xi1]; omega) (by rw [xi1]; omega), xi1]⟩
            refine gt_alu (st' := [.int s, .int x, .int f, .ref 192]) (ykc_279 (e := (0, .iadd, 0)) rfl) (by rw [← e_s]; exact rfl) rfl ?_
            obtain ⟨y, e_y⟩ : ∃ zq : Int32, (if s < x then s else x) = zq := ⟨_, rfl⟩
            refine gt_mem (n := 3) (st' := [.int y, .int f, .ref 192]) (ph' := ph) (ykc_279 (e := (5, .invokestatic 145, 0)) rfl) (by rw [← e_y]; rfl) rfl ?_
            refine gt_br (pc' := 164) (st' := [.int y, .int f, .ref 192]) (ykc_279 (e := (4, .goto 10, 164)) rfl) rfl ?_
            refine gt_ias (A := 192) (y := y) (x := f) (ykc_279 (e := (5, .iastore, 0)) rfl) hP rfl rfl (by omega) (by omega) xany rfl (fun ph503 hP503 u503 => ?_)
            have f503_3 : xget ph503 170 3 = some (.int R) := (u503.2.1 170 3 (fun q => absurd q.1 (by decide))).trans hR
            have f503_4 : xget ph503 170 4 = some (.int C) := (u503.2.1 170 4 (fun q => absurd q.1 (by decide))).trans hC
            obtain ⟨k1, e_k1, h_k1⟩ : ∃ zq : Int32, k + Int32.ofInt 1 = zq ∧ zq.toInt = k.toInt + 1 := ⟨_, rfl, by rw [ti_add (by rw [xi1]; omega) (by rw [xi1]; omega), xi1]⟩
            refine gt_store (L' := [some (.ref 170), some (.int fr), some (.int goal), some (.long over), none, some (.int n0), some (.int f), some (.int k1), some (.int g), some (.int (Int32.ofInt 1))]) (st' := []) (n := 3) (ykc_279 (e := (3, .iinc 7 1, 0)) rfl) (by rw [← e_k1]; rfl) rfl ?_
            refine gt_br (pc' := 65) (st' := []) (ykc_279 (e := (4, .goto (-103), 65)) rfl) rfl ?_
            exact ih k1 _ _ ph503 hP503 (xu1_E hE u503 rfl rfl rfl g9) ((u503.2.1 170 3 (fun q => absurd q.1 (by decide))).trans hR) ((u503.2.1 170 4 (fun q => absurd q.1 (by decide))).trans hC) (xfar_set hN hP503 hfar (by omega) (show g.toInt.toNat < Rn * Cn by omega) g_x g_z u503 (xmin_i e_y h_s)) (by omega) (by omega)
      · refine gt_ieq_f (ykc_279 (e := (4, .if_icmp .eq 12, 102)) rfl) hff rfl ?_
        refine gt_load (v := .long over) (n := 1) (ykc_279 (e := (2, .lload_n kF3, 0)) rfl) rfl rfl ?_
        refine gt_load (v := .int f) (n := 2) (ykc_279 (e := (2, .iload 6, 0)) rfl) rfl rfl ?_
        refine gt_cs (n := 2) (as := [.long over, .int f]) (r := []) (ykc_279 (e := (6, .invokestatic 304, 0)) rfl) rfl rfl rfl rfl (xhas_run (D := D')) rfl (fun vv ph302 hv => ?_)
        obtain ⟨z1, e9, e8, z1_s⟩ := hv; subst e9; have e7 := e8.symm; subst e7
        change xGT kK (D' + 1) 279 Q (99, [some (.ref 170), some (.int fr), some (.int goal), some (.long over), none, some (.int n0), some (.int f), some (.int k), some (.int g), o9], [.int z1], ph, 0, 0)
        by_cases hz1 : z1.toInt = 0
        · refine gt_zeq_t (ykc_279 (e := (4, .ifCond .eq 22, 121)) rfl) hz1 ?_
          refine gt_alu (st' := [.int (Int32.ofInt 0)]) (ykc_279 (e := (0, .iconst 0, 0)) rfl) rfl rfl ?_
          refine gt_store (L' := [some (.ref 170), some (.int fr), some (.int goal), some (.long over), none, some (.int n0), some (.int f), some (.int k), some (.int g), some (.int (Int32.ofInt 0))]) (st' := []) (n := 2) (ykc_279 (e := (3, .istore 9, 0)) rfl) rfl rfl ?_
          refine gt_load (v := .ref 170) (n := 1) (ykc_279 (e := (2, .aload_n kF0, 0)) rfl) rfl rfl ?_
          refine gt_gfr (A := 192) (ykc_279 (e := (5, .getfield 95, 0)) rfl) rfl hP rfl rfl rfl ?_
          refine gt_load (v := .int f) (n := 2) (ykc_279 (e := (2, .iload 6, 0)) rfl) rfl rfl ?_
          refine gt_load (v := .int (Int32.ofInt 0)) (n := 2) (ykc_279 (e := (2, .iload 9, 0)) rfl) rfl rfl ?_
          refine gt_zeq_t (ykc_279 (e := (4, .ifCond .eq 25, 157)) rfl) (by decide) ?_
          refine gt_load (v := .ref 170) (n := 1) (ykc_279 (e := (2, .aload_n kF0, 0)) rfl) rfl rfl ?_
          refine gt_gfr (A := 192) (ykc_279 (e := (5, .getfield 95, 0)) rfl) rfl hP rfl rfl rfl ?_
          refine gt_load (v := .int f) (n := 2) (ykc_279 (e := (2, .iload 6, 0)) rfl) rfl rfl ?_
          refine gt_ial (A := 192) (ykc_279 (e := (5, .iaload, 0)) rfl) hP rfl rfl (by omega) (by omega) rfl (fun x g_x b_x => ?_)
          refine gt_ias (A := 192) (y := x) (x := f) (ykc_279 (e := (5, .iastore, 0)) rfl) hP rfl rfl (by omega) (by omega) xany rfl (fun ph403 hP403 u403 => ?_)
          have f403_3 : xget ph403 170 3 = some (.int R) := (u403.2.1 170 3 (fun q => absurd q.1 (by decide))).trans hR
          have f403_4 : xget ph403 170 4 = some (.int C) := (u403.2.1 170 4 (fun q => absurd q.1 (by decide))).trans hC
          obtain ⟨k1, e_k1, h_k1⟩ : ∃ zq : Int32, k + Int32.ofInt 1 = zq ∧ zq.toInt = k.toInt + 1 := ⟨_, rfl, by rw [ti_add (by rw [xi1]; omega) (by rw [xi1]; omega), xi1]⟩
          refine gt_store (L' := [some (.ref 170), some (.int fr), some (.int goal), some (.long over), none, some (.int n0), some (.int f), some (.int k1), some (.int g), some (.int (Int32.ofInt 0))]) (st' := []) (n := 3) (ykc_279 (e := (3, .iinc 7 1, 0)) rfl) (by rw [← e_k1]; rfl) rfl ?_
          refine gt_br (pc' := 65) (st' := []) (ykc_279 (e := (4, .goto (-103), 65)) rfl) rfl ?_
          exact ih k1 _ _ ph403 hP403 (xu1_E hE u403 rfl rfl rfl g9) ((u403.2.1 170 3 (fun q => absurd q.1 (by decide))).trans hR) ((u403.2.1 170 4 (fun q => absurd q.1 (by decide))).trans hC) (xfar_same hN hP403 hfar (by omega) g_x u403) (by omega) (by omega)
        · refine gt_zeq_f (ykc_279 (e := (4, .ifCond .eq 22, 121)) rfl) hz1 rfl ?_
          refine gt_load (v := .int g) (n := 2) (ykc_279 (e := (2, .iload 8, 0)) rfl) rfl rfl ?_
          refine gt_load (v := .int goal) (n := 1) (ykc_279 (e := (2, .iload_n kF2, 0)) rfl) rfl rfl ?_
          by_cases hgg : g.toInt = goal.toInt
          · refine gt_ieq_t (ykc_279 (e := (4, .if_icmp .eq 12, 117)) rfl) hgg ?_
            refine gt_alu (st' := [.int (Int32.ofInt 1)]) (ykc_279 (e := (0, .iconst 1, 0)) rfl) rfl rfl ?_
            refine gt_br (pc' := 122) (st' := [.int (Int32.ofInt 1)]) (ykc_279 (e := (4, .goto 4, 122)) rfl) rfl ?_
            refine gt_store (L' := [some (.ref 170), some (.int fr), some (.int goal), some (.long over), none, some (.int n0), some (.int f), some (.int k), some (.int g), some (.int (Int32.ofInt 1))]) (st' := []) (n := 2) (ykc_279 (e := (3, .istore 9, 0)) rfl) rfl rfl ?_
            refine gt_load (v := .ref 170) (n := 1) (ykc_279 (e := (2, .aload_n kF0, 0)) rfl) rfl rfl ?_
            refine gt_gfr (A := 192) (ykc_279 (e := (5, .getfield 95, 0)) rfl) rfl hP rfl rfl rfl ?_
            refine gt_load (v := .int f) (n := 2) (ykc_279 (e := (2, .iload 6, 0)) rfl) rfl rfl ?_
            refine gt_load (v := .int (Int32.ofInt 1)) (n := 2) (ykc_279 (e := (2, .iload 9, 0)) rfl) rfl rfl ?_
            refine gt_zeq_f (ykc_279 (e := (4, .ifCond .eq 25, 157)) rfl) (by decide) rfl ?_
            refine gt_load (v := .ref 170) (n := 1) (ykc_279 (e := (2, .aload_n kF0, 0)) rfl) rfl rfl ?_
            refine gt_gfr (A := 192) (ykc_279 (e := (5, .getfield 95, 0)) rfl) rfl hP rfl rfl rfl ?_
            refine gt_load (v := .int f) (n := 2) (ykc_279 (e := (2, .iload 6, 0)) rfl) rfl rfl ?_
            refine gt_ial (A := 192) (ykc_279 (e := (5, .iaload, 0)) rfl) hP rfl rfl (by omega) (by omega) rfl (fun x g_x b_x => ?_)
            refine gt_load (v := .ref 170) (n := 1) (ykc_279 (e := (2, .aload_n kF0, 0)) rfl) rfl rfl ?_
            refine gt_gfr (A := 192) (ykc_279 (e := (5, .getfield 95, 0)) rfl) rfl hP rfl rfl rfl ?_
            refine gt_load (v := .int g) (n := 2) (ykc_279 (e := (2, .iload 8, 0)) rfl) rfl rfl ?_
            refine gt_ial (A := 192) (ykc_279 (e := (5, .iaload, 0)) rfl) hP rfl rfl (by omega) (by omega) rfl (fun z g_z b_z => ?_)
            have hz9 := xfar_get hN hfar (show g.toInt.toNat < Rn * Cn by omega) g_z
            refine gt_alu (st' := [.int (Int32.ofInt 1), .int z, .int x, .int f, .ref 192]) (ykc_279 (e := (0, .iconst 1, 0)) rfl) rfl rfl ?_
            obtain ⟨s, e_s, h_s⟩ : ∃ zq : Int32, z + (Int32.ofInt 1) = zq ∧ zq.toInt = z.toInt + 1 := ⟨_, rfl, by rw [ti_add (by rw [xi1]; omega) (by rw [xi1]; omega), xi1]⟩
            refine gt_alu (st' := [.int s, .int x, .int f, .ref 192]) (ykc_279 (e := (0, .iadd, 0)) rfl) (by rw [← e_s]; exact rfl) rfl ?_
            obtain ⟨y, e_y⟩ : ∃ zq : Int32, (if s < x then s else x) = zq := ⟨_, rfl⟩
            refine gt_mem (n := 3) (st' := [.int y, .int f, .ref 192]) (ph' := ph) (ykc_279 (e := (5, .invokestatic 145, 0)) rfl) (by rw [← e_y]; rfl) rfl ?_
            refine gt_br (pc' := 164) (st' := [.int y, .int f, .ref 192]) (ykc_279 (e := (4, .goto 10, 164)) rfl) rfl ?_
            refine gt_ias (A := 192) (y := y) (x := f) (ykc_279 (e := (5, .iastore, 0)) rfl) hP rfl rfl (by omega) (by omega) xany rfl (fun ph503 hP503 u503 => ?_)
            have f503_3 : xget ph503 170 3 = some (.int R) := (u503.2.1 170 3 (fun q => absurd q.1 (by decide))).trans hR
            have f503_4 : xget ph503 170 4 = some (.int C) := (u503.2.1 170 4 (fun q => absurd q.1 (by decide))).trans hC
            obtain ⟨k1, e_k1, h_k1⟩ : ∃ zq : Int32, k + Int32.ofInt 1 = zq ∧ zq.toInt = k.toInt + 1 := ⟨_, rfl, by rw [ti_add (by rw [xi1]; omega) (by rw [xi1]; omega), xi1]⟩
            refine gt_store (L' := [some (.ref 170), some (.int fr), some (.int goal), some (.long over), none, some (.int n0), some (.int f), some (.int k1), some (.int g), some (.int (Int32.ofInt 1))]) (st' := []) (n := 3) (ykc_279 (e := (3, .iinc 7 1, 0)) rfl) (by rw [← e_k1]; rfl) rfl ?_
            refine gt_br (pc' := 65) (st' := []) (ykc_279 (e := (4, .goto (-103), 65)) rfl) rfl ?_
            exact ih k1 _ _ ph503 hP503 (xu1_E hE u503 rfl rfl rfl g9) ((u503.2.1 170 3 (fun q => absurd q.1 (by decide))).trans hR) ((u503.2.1 170 4 (fun q => absurd q.1 (by decide))).trans hC) (xfar_set hN hP503 hfar (by omega) (show g.toInt.toNat < Rn * Cn by omega) g_x g_z u503 (xmin_i e_y h_s)) (by omega) (by omega)
          · refine gt_ieq_f (ykc_279 (e := (4, .if_icmp .eq 12, 117)) rfl) hgg rfl ?_
            refine gt_load (v := .long over) (n := 1) (ykc_279 (e := (2, .lload_n kF3, 0)) rfl) rfl rfl ?_
            refine gt_load (v := .int g) (n := 2) (ykc_279 (e := (2, .iload 8, 0)) rfl) rfl rfl ?_
            refine gt_cs (n := 2) (as := [.long over, .int g]) (r := []) (ykc_279 (e := (6, .invokestatic 304, 0)) rfl) rfl rfl rfl rfl (xhas_run (D := D')) rfl (fun vv ph503 hv => ?_)
            obtain ⟨z2, e9, e8, z2_s⟩ := hv; subst e9; have e7 := e8.symm; subst e7
            change xGT kK (D' + 1) 279 Q (114, [some (.ref 170), some (.int fr), some (.int goal), some (.long over), none, some (.int n0), some (.int f), some (.int k), some (.int g), o9], [.int z2], ph, 0, 0)
            by_cases hz2 : z2.toInt = 0
            · refine gt_zeq_t (ykc_279 (e := (4, .ifCond .eq 7, 121)) rfl) hz2 ?_
              refine gt_alu (st' := [.int (Int32.ofInt 0)]) (ykc_279 (e := (0, .iconst 0, 0)) rfl) rfl rfl ?_
              refine gt_store (L' := [some (.ref 170), some (.int fr), some (.int goal), some (.long over), none, some (.int n0), some (.int f), some (.int k), some (.int g), some (.int (Int32.ofInt 0))]) (st' := []) (n := 2) (ykc_279 (e := (3, .istore 9, 0)) rfl) rfl rfl ?_
              refine gt_load (v := .ref 170) (n := 1) (ykc_279 (e := (2, .aload_n kF0, 0)) rfl) rfl rfl ?_
              refine gt_gfr (A := 192) (ykc_279 (e := (5, .getfield 95, 0)) rfl) rfl hP rfl rfl rfl ?_
              refine gt_load (v := .int f) (n := 2) (ykc_279 (e := (2, .iload 6, 0)) rfl) rfl rfl ?_
              refine gt_load (v := .int (Int32.ofInt 0)) (n := 2) (ykc_279 (e := (2, .iload 9, 0)) rfl) rfl rfl ?_
              refine gt_zeq_t (ykc_279 (e := (4, .ifCond .eq 25, 157)) rfl) (by decide) ?_
              refine gt_load (v := .ref 170) (n := 1) (ykc_279 (e := (2, .aload_n kF0, 0)) rfl) rfl rfl ?_
              refine gt_gfr (A := 192) (ykc_279 (e := (5, .getfield 95, 0)) rfl) rfl hP rfl rfl rfl ?_
              refine gt_load (v := .int f) (n := 2) (ykc_279 (e := (2, .iload 6, 0)) rfl) rfl rfl ?_
              refine gt_ial (A := 192) (ykc_279 (e := (5, .iaload, 0)) rfl) hP rfl rfl (by omega) (by omega) rfl (fun x g_x b_x => ?_)
              refine gt_ias (A := 192) (y := x) (x := f) (ykc_279 (e := (5, .iastore, 0)) rfl) hP rfl rfl (by omega) (by omega) xany rfl (fun ph604 hP604 u604 => ?_)
              have f604_3 : xget ph604 170 3 = some (.int R) := (u604.2.1 170 3 (fun q => absurd q.1 (by decide))).trans hR
              have f604_4 : xget ph604 170 4 = some (.int C) := (u604.2.1 170 4 (fun q => absurd q.1 (by decide))).trans hC
              obtain ⟨k1, e_k1, h_k1⟩ : ∃ zq : Int32, k + Int32.ofInt 1 = zq ∧ zq.toInt = k.toInt + 1 := ⟨_, rfl, by rw [ti_add (by rw [xi1]; omega) (by rw [xi1]; omega), xi1]⟩
              refine gt_store (L' := [some (.ref 170), some (.int fr), some (.int goal), some (.long over), none, some (.int n0), some (.int f), some (.int k1), some (.int g), some (.int (Int32.ofInt 0))]) (st' := []) (n := 3) (ykc_279 (e := (3, .iinc 7 1, 0)) rfl) (by rw [← e_k1]; rfl) rfl ?_
              refine gt_br (pc' := 65) (st' := []) (ykc_279 (e := (4, .goto (-103), 65)) rfl) rfl ?_
              exact ih k1 _ _ ph604 hP604 (xu1_E hE u604 rfl rfl rfl g9) ((u604.2.1 170 3 (fun q => absurd q.1 (by decide))).trans hR) ((u604.2.1 170 4 (fun q => absurd q.1 (by decide))).trans hC) (xfar_same hN hP604 hfar (by omega) g_x u604) (by omega) (by omega)
            · refine gt_zeq_f (ykc_279 (e := (4, .ifCond .eq 7, 121)) rfl) hz2 rfl ?_
              refine gt_alu (st' := [.int (Int32.ofInt 1)]) (ykc_279 (e := (0, .iconst 1, 0)) rfl) rfl rfl ?_
              refine gt_br (pc' := 122) (st' := [.int (Int32.ofInt 1)]) (ykc_279 (e := (4, .goto 4, 122)) rfl) rfl ?_
              refine gt_store (L' := [some (.ref 170), some (.int fr), some (.int goal), some (.long over), none, some (.int n0), some (.int f), some (.int k), some (.int g), some (.int (Int32.ofInt 1))]) (st' := []) (n := 2) (ykc_279 (e := (3, .istore 9, 0)) rfl) rfl rfl ?_
              refine gt_load (v := .ref 170) (n := 1) (ykc_279 (e := (2, .aload_n kF0, 0)) rfl) rfl rfl ?_
              refine gt_gfr (A := 192) (ykc_279 (e := (5, .getfield 95, 0)) rfl) rfl hP rfl rfl rfl ?_
              refine gt_load (v := .int f) (n := 2) (ykc_279 (e := (2, .iload 6, 0)) rfl) rfl rfl ?_
              refine gt_load (v := .int (Int32.ofInt 1)) (n := 2) (ykc_279 (e := (2, .iload 9, 0)) rfl) rfl rfl ?_
              refine gt_zeq_f (ykc_279 (e := (4, .ifCond .eq 25, 157)) rfl) (by decide) rfl ?_
              refine gt_load (v := .ref 170) (n := 1) (ykc_279 (e := (2, .aload_n kF0, 0)) rfl) rfl rfl ?_
              refine gt_gfr (A := 192) (ykc_279 (e := (5, .getfield 95, 0)) rfl) rfl hP rfl rfl rfl ?_
              refine gt_load (v := .int f) (n := 2) (ykc_279 (e := (2, .iload 6, 0)) rfl) rfl rfl ?_
              refine gt_ial (A := 192) (ykc_279 (e := (5, .iaload, 0)) rfl) hP rfl rfl (by omega) (by omega) rfl (fun x g_x b_x => ?_)
              refine gt_load (v := .ref 170) (n := 1) (ykc_279 (e := (2, .aload_n kF0, 0)) rfl) rfl rfl ?_
              refine gt_gfr (A := 192) (ykc_279 (e := (5, .getfield 95, 0)) rfl) rfl hP rfl rfl rfl ?_
              refine gt_load (v := .int g) (n := 2) (ykc_279 (e := (2, .iload 8, 0)) rfl) rfl rfl ?_
              refine gt_ial (A := 192) (ykc_279 (e := (5, .iaload, 0)) rfl) hP rfl rfl (by omega) (by omega) rfl (fun z g_z b_z => ?_)
              have hz9 := xfar_get hN hfar (show g.toInt.toNat < Rn * Cn by omega) g_z
              refine gt_alu (st' := [.int (Int32.ofInt 1), .int z, .int x, .int f, .ref 192]) (ykc_279 (e := (0, .iconst 1, 0)) rfl) rfl rfl ?_
              obtain ⟨s, e_s, h_s⟩ : ∃ zq : Int32, z + (Int32.ofInt 1) = zq ∧ zq.toInt = z.toInt + 1 := ⟨_, rfl, by rw [ti_add (by rw [xi1]; omega) (by rw [xi1]; omega), xi1]⟩
              refine gt_alu (st' := [.int s, .int x, .int f, .ref 192]) (ykc_279 (e := (0, .iadd, 0)) rfl) (by rw [← e_s]; exact rfl) rfl ?_
              obtain ⟨y, e_y⟩ : ∃ zq : Int32, (if s < x then s else x) = zq := ⟨_, rfl⟩
              refine gt_mem (n := 3) (st' := [.int y, .int f, .ref 192]) (ph' := ph) (ykc_279 (e := (5, .invokestatic 145, 0)) rfl) (by rw [← e_y]; rfl) rfl ?_
              refine gt_br (pc' := 164) (st' := [.int y, .int f, .ref 192]) (ykc_279 (e := (4, .goto 10, 164)) rfl) rfl ?_
              refine gt_ias (A := 192) (y := y) (x := f) (ykc_279 (e := (5, .iastore, 0)) rfl) hP rfl rfl (by omega) (by omega) xany rfl (fun ph604 hP604 u604 => ?_)
              have f604_3 : xget ph604 170 3 = some (.int R) := (u604.2.1 170 3 (fun q => absurd q.1 (by decide))).trans hR
              have f604_4 : xget ph604 170 4 = some (.int C) := (u604.2.1 170 4 (fun q => absurd q.1 (by decide))).trans hC
              obtain ⟨k1, e_k1, h_k1⟩ : ∃ zq : Int32, k + Int32.ofInt 1 = zq ∧ zq.toInt = k.toInt + 1 := ⟨_, rfl, by rw [ti_add (by rw [xi1]; omega) (by rw [xi1]; omega), xi1]⟩
              refine gt_store (L' := [some (.ref 170), some (.int fr), some (.int goal), some (.long over), none, some (.int n0), some (.int f), some (.int k1), some (.int g), some (.int (Int32.ofInt 1))]) (st' := []) (n := 3) (ykc_279 (e := (3, .iinc 7 1, 0)) rfl) (by rw [← e_k1]; rfl) rfl ?_
              refine gt_br (pc' := 65) (st' := []) (ykc_279 (e := (4, .goto (-103), 65)) rfl) rfl ?_
              exact ih k1 _ _ ph604 hP604 (xu1_E hE u604 rfl rfl rfl g9) ((u604.2.1 170 3 (fun q => absurd q.1 (by decide))).trans hR) ((u604.2.1 170 4 (fun q => absurd q.1 (by decide))).trans hC) (xfar_set hN hP604 hfar (by omega) (show g.toInt.toNat < Rn * Cn by omega) g_x g_z u604 (xmin_i e_y h_s)) (by omega) (by omega)

set_option maxRecDepth 6000 in
theorem xlays_f {E : pm_H → Prop} (hE : xHE xX xgA_G97 xgF_G97 E) {m : Int} {w D Rn Cn : Nat} {R C fr goal : Int32} {over : Int64} {Q : Option Value → pm_H → Prop} (hm : m ≤ 2147483646) (hw : (w : Int) ≤ m) (hD : 5 ≤ D) (eR : R.toInt = (Rn : Int)) (eC : C.toInt = (Cn : Int)) (r0 : 3 ≤ Rn) (r1 : Rn ≤ 7) (c0 : 3 ≤ Cn) (c1 : Cn ≤ 7) {n0 : Int32} (kk : ∀ (f : Int32) (o7 o8 o9 : Option Value) (ph : pm_H), xH xX kK m w ph → E ph → xget ph 170 3 = some (.int R) → xget ph 170 4 = some (.int C) → xfar (Rn * Cn) ph → xGT kK D 279 Q (177, [some (.ref 170), some (.int fr), some (.int goal), some (.long over), none, some (.int n0), some (.int f), o7, o8, o9], [], ph, 0, 0)) : ∀ (s : Nat) (f : Int32) (o7 o8 o9 : Option Value) (ph : pm_H), xH xX kK m w ph → E ph → xget ph 170 3 = some (.int R) → xget ph 170 4 = some (.int C) → xfar (Rn * Cn) ph → 0 ≤ f.toInt → ((Rn * Cn : Nat) : Int) ≤ f.toInt + s → xGT kK D 279 Q (53, [some (.ref 170), some (.int fr), some (.int goal), some (.long over), none, some (.int n0), some (.int f), o7, o8, o9], [], ph, 0, 0) := by
  obtain ⟨D', rfl⟩ : ∃ D', D = D' + 1 := ⟨D - 1, by omega⟩
  have hN : Rn * Cn ≤ 49 := Nat.mul_le_mul r1 c1
  intro s
  induction s with
  | zero =>
    intro f o7 o8 o9 ph hP g9 hR hC hfar hf0 hfs
    refine gt_load (v := .int f) (n := 2) (ykc_279 (e := (2, .iload 6, 0)) rfl) rfl rfl ?_
    refine gt_load (v := .ref 170) (n := 1) (ykc_279 (e := (2, .aload_n kF0, 0)) rfl) rfl rfl ?_
    refine gt_cv (n := 0) (as := [.ref 170]) (r := [.int f]) (ykc_279 (e := (6, .invokevirtual 122, 0)) rfl) rfl hP rfl rfl rfl (xfields (D := D') hP hR hC eR eC r1 c1) rfl (fun vv ph1 hv => ?_)
    obtain ⟨n, e9, e8, h_n⟩ := hv; subst e9; have e7 := e8.symm; subst e7
    change xGT kK (D' + 1) 279 Q (59, [some (.ref 170), some (.int fr), some (.int goal), some (.long over), none, some (.int n0), some (.int f), o7, o8, o9], [.int n, .int f], ph, 0, 0)
    refine gt_ige_t (ykc_279 (e := (4, .if_icmp .ge 118, 177)) rfl) (by omega) ?_
    exact kk _ _ _ _ _ hP g9 hR hC hfar
  | succ s ih =>
    intro f o7 o8 o9 ph hP g9 hR hC hfar hf0 hfs
    by_cases hfN : ((Rn * Cn : Nat) : Int) ≤ f.toInt
    · refine gt_load (v := .int f) (n := 2) (ykc_279 (e := (2, .iload 6, 0)) rfl) rfl rfl ?_
      refine gt_load (v := .ref 170) (n := 1) (ykc_279 (e := (2, .aload_n kF0, 0)) rfl) rfl rfl ?_
      refine gt_cv (n := 0) (as := [.ref 170]) (r := [.int f]) (ykc_279 (e := (6, .invokevirtual 122, 0)) rfl) rfl hP rfl rfl rfl (xfields (D := D') hP hR hC eR eC r1 c1) rfl (fun vv ph1 hv => ?_)
      obtain ⟨n, e9, e8, h_n⟩ := hv; subst e9; have e7 := e8.symm; subst e7
      change xGT kK (D' + 1) 279 Q (59, [some (.ref 170), some (.int fr), some (.int goal), some (.long over), none, some (.int n0), some (.int f), o7, o8, o9], [.int n, .int f], ph, 0, 0)
      refine gt_ige_t (ykc_279 (e := (4, .if_icmp .ge 118, 177)) rfl) (by omega) ?_
      exact kk _ _ _ _ _ hP g9 hR hC hfar
    refine gt_load (v := .int f) (n := 2) (ykc_279 (e := (2, .iload 6, 0)) rfl) rfl rfl ?_
    refine gt_load (v := .ref 170) (n := 1) (ykc_279 (e := (2, .aload_n kF0, 0)) rfl) rfl rfl ?_
    refine gt_cv (n := 0) (as := [.ref 170]) (r := [.int f]) (ykc_279 (e := (6, .invokevirtual 122, 0)) rfl) rfl hP rfl rfl rfl (xfields (D := D') hP hR hC eR eC r1 c1) rfl (fun vv ph1 hv => ?_)
    obtain ⟨n, e9, e8, h_n⟩ := hv; subst e9; have e7 := e8.symm; subst e7
    change xGT kK (D' + 1) 279 Q (59, [some (.ref 170), some (.int fr), some (.int goal), some (.long over), none, some (.int n0), some (.int f), o7, o8, o9], [.int n, .int f], ph, 0, 0)
    refine gt_ige_f (ykc_279 (e := (4, .if_icmp .ge 118, 177)) rfl) (by omega) rfl ?_
    refine gt_alu (st' := [.int (Int32.ofInt 0)]) (ykc_279 (e := (0, .iconst 0, 0)) rfl) rfl rfl ?_
    refine gt_store (L' := [some (.ref 170), some (.int fr), some (.int goal), some (.long over), none, some (.int n0), some (.int f), some (.int (Int32.ofInt 0)), o8, o9]) (st' := []) (n := 2) (ykc_279 (e := (3, .istore 7, 0)) rfl) rfl rfl ?_
    have z0 : (Int32.ofInt 0).toInt = 0 := by decide
    refine xlays_w hE hm hw hD eR eC r0 r1 c0 c1 hf0 (by omega) ?_ 8 _ _ _ ph hP g9 hR hC hfar (by omega) (by omega)
    intro k2 o82 o92 ph2 hP2 g92 hR2 hC2 hfar2
    obtain ⟨f1, e_f1, h_f1⟩ : ∃ zq : Int32, f + Int32.ofInt 1 = zq ∧ zq.toInt = f.toInt + 1 := ⟨_, rfl, by rw [ti_add (by rw [xi1]; omega) (by rw [xi1]; omega), xi1]⟩
    refine gt_store (L' := [some (.ref 170), some (.int fr), some (.int goal), some (.long over), none, some (.int n0), some (.int f1), some (.int k2), o82, o92]) (st' := []) (n := 3) (ykc_279 (e := (3, .iinc 6 1, 0)) rfl) (by rw [← e_f1]; rfl) rfl ?_
    refine gt_br (pc' := 53) (st' := []) (ykc_279 (e := (4, .goto (-121), 53)) rfl) rfl ?_
    exact ih f1 _ _ _ ph2 hP2 g92 hR2 hC2 hfar2 (by omega) (by omega)

set_option maxRecDepth 6000 in
theorem xlays_n {E : pm_H → Prop} (hE : xHE xX xgA_G97 xgF_G97 E) {m : Int} {w D Rn Cn : Nat} {R C fr goal : Int32} {over : Int64} {Q : Option Value → pm_H → Prop} (hm : m ≤ 2147483646) (hw : (w : Int) ≤ m) (hD : 5 ≤ D) (eR : R.toInt = (Rn : Int)) (eC : C.toInt = (Cn : Int)) (r0 : 3 ≤ Rn) (r1 : Rn ≤ 7) (c0 : 3 ≤ Cn) (c1 : Cn ≤ 7) (kk : ∀ (o5 o6 o7 o8 o9 : Option Value) (ph : pm_H), xH xX kK m w ph → E ph → xget ph 170 3 = some (.int R) → xget ph 170 4 = some (.int C) → xfar (Rn * Cn) ph → xGT kK D 279 Q (183, [some (.ref 170), some (.int fr), some (.int goal), some (.long over), none, o5, o6, o7, o8, o9], [], ph, 0, 0)) : ∀ (s : Nat) (n0 : Int32) (o6 o7 o8 o9 : Option Value) (ph : pm_H), xH xX kK m w ph → E ph → xget ph 170 3 = some (.int R) → xget ph 170 4 = some (.int C) → xfar (Rn * Cn) ph → 0 ≤ n0.toInt → ((Rn * Cn : Nat) : Int) ≤ n0.toInt + s → xGT kK D 279 Q (41, [some (.ref 170), some (.int fr), some (.int goal), some (.long over), none, some (.int n0), o6, o7, o8, o9], [], ph, 0, 0) := by
  obtain ⟨D', rfl⟩ : ∃ D', D = D' + 1 := ⟨D - 1, by omega⟩
  have hN : Rn * Cn ≤ 49 := Nat.mul_le_mul r1 c1
  intro s
  induction s with
  | zero =>
    intro n0 o6 o7 o8 o9 ph hP g9 hR hC hfar hf0 hfs
    refine gt_load (v := .int n0) (n := 2) (ykc_279 (e := (2, .iload 5, 0)) rfl) rfl rfl ?_
    refine gt_load (v := .ref 170) (n := 1) (ykc_279 (e := (2, .aload_n kF0, 0)) rfl) rfl rfl ?_
    refine gt_cv (n := 0) (as := [.ref 170]) (r := [.int n0]) (ykc_279 (e := (6, .invokevirtual 122, 0)) rfl) rfl hP rfl rfl rfl (xfields (D := D') hP hR hC eR eC r1 c1) rfl (fun vv ph1 hv => ?_)
    obtain ⟨n, e9, e8, h_n⟩ := hv; subst e9; have e7 := e8.symm; subst e7
    change xGT kK (D' + 1) 279 Q (47, [some (.ref 170), some (.int fr), some (.int goal), some (.long over), none, some (.int n0), o6, o7, o8, o9], [.int n, .int n0], ph, 0, 0)
    refine gt_ige_t (ykc_279 (e := (4, .if_icmp .ge 136, 183)) rfl) (by omega) ?_
    exact kk _ _ _ _ _ _ hP g9 hR hC hfar
  | succ s ih =>
    intro n0 o6 o7 o8 o9 ph hP g9 hR hC hfar hf0 hfs
    by_cases hfN : ((Rn * Cn : Nat) : Int) ≤ n0.toInt
    · refine gt_load (v := .int n0) (n := 2) (ykc_279 (e := (2, .iload 5, 0)) rfl) rfl rfl ?_
      refine gt_load (v := .ref 170) (n := 1) (ykc_279 (e := (2, .aload_n kF0, 0)) rfl) rfl rfl ?_
      refine gt_cv (n := 0) (as := [.ref 170]) (r := [.int n0]) (ykc_279 (e := (6, .invokevirtual 122, 0)) rfl) rfl hP rfl rfl rfl (xfields (D := D') hP hR hC eR eC r1 c1) rfl (fun vv ph1 hv => ?_)
      obtain ⟨n, e9, e8, h_n⟩ := hv; subst e9; have e7 := e8.symm; subst e7
      change xGT kK (D' + 1) 279 Q (47, [some (.ref 170), some (.int fr), some (.int goal), some (.long over), none, some (.int n0), o6, o7, o8, o9], [.int n, .int n0], ph, 0, 0)
      refine gt_ige_t (ykc_279 (e := (4, .if_icmp .ge 136, 183)) rfl) (by omega) ?_
      exact kk _ _ _ _ _ _ hP g9 hR hC hfar
    refine gt_load (v := .int n0) (n := 2) (ykc_279 (e := (2, .iload 5, 0)) rfl) rfl rfl ?_
    refine gt_load (v := .ref 170) (n := 1) (ykc_279 (e := (2, .aload_n kF0, 0)) rfl) rfl rfl ?_
    refine gt_cv (n := 0) (as := [.ref 170]) (r := [.int n0]) (ykc_279 (e := (6, .invokevirtual 122, 0)) rfl) rfl hP rfl rfl rfl (xfields (D := D') hP hR hC eR eC r1 c1) rfl (fun vv ph1 hv => ?_)
    obtain ⟨n, e9, e8, h_n⟩ := hv; subst e9; have e7 := e8.symm; subst e7
    change xGT kK (D' + 1) 279 Q (47, [some (.ref 170), some (.int fr), some (.int goal), some (.long over), none, some (.int n0), o6, o7, o8, o9], [.int n, .int n0], ph, 0, 0)
    refine gt_ige_f (ykc_279 (e := (4, .if_icmp .ge 136, 183)) rfl) (by omega) rfl ?_
    refine gt_alu (st' := [.int (Int32.ofInt 0)]) (ykc_279 (e := (0, .iconst 0, 0)) rfl) rfl rfl ?_
    refine gt_store (L' := [some (.ref 170), some (.int fr), some (.int goal), some (.long over), none, some (.int n0), some (.int (Int32.ofInt 0)), o7, o8, o9]) (st' := []) (n := 2) (ykc_279 (e := (3, .istore 6, 0)) rfl) rfl rfl ?_
    have z0 : (Int32.ofInt 0).toInt = 0 := by decide
    refine xlays_f hE hm hw hD eR eC r0 r1 c0 c1 ?_ (Rn * Cn) _ _ _ _ ph hP g9 hR hC hfar (by omega) (by omega)
    intro f2 o72 o82 o92 ph2 hP2 g92 hR2 hC2 hfar2
    obtain ⟨n1, e_n1, h_n1⟩ : ∃ zq : Int32, n0 + Int32.ofInt 1 = zq ∧ zq.toInt = n0.toInt + 1 := ⟨_, rfl, by rw [ti_add (by rw [xi1]; omega) (by rw [xi1]; omega), xi1]⟩
    refine gt_store (L' := [some (.ref 170), some (.int fr), some (.int goal), some (.long over), none, some (.int n1), some (.int f2), o72, o82, o92]) (st' := []) (n := 3) (ykc_279 (e := (3, .iinc 5 1, 0)) rfl) (by rw [← e_n1]; rfl) rfl ?_
    refine gt_br (pc' := 41) (st' := []) (ykc_279 (e := (4, .goto (-139), 41)) rfl) rfl ?_
    exact ih n1 _ _ _ _ ph2 hP2 g92 hR2 hC2 hfar2 (by omega) (by omega)

set_option maxRecDepth 6000 in
theorem xlays_0 {E : pm_H → Prop} (hE : xHE xX xgA_G97 xgF_G97 E) {m : Int} {w D Rn Cn : Nat} {R C fr goal : Int32} {over : Int64} {Q : Option Value → pm_H → Prop} (hm : m ≤ 2147483646) (hw : (w : Int) ≤ m) (hD : 5 ≤ D) (eR : R.toInt = (Rn : Int)) (eC : C.toInt = (Cn : Int)) (r0 : 3 ≤ Rn) (r1 : Rn ≤ 7) (c0 : 3 ≤ Cn) (c1 : Cn ≤ 7) (hg0 : 0 ≤ goal.toInt) (hg1 : goal.toInt < ((Rn * Cn : Nat) : Int)) (kk : ∀ (ph : pm_H), xH xX kK m w ph → E ph → xget ph 170 3 = some (.int R) → xget ph 170 4 = some (.int C) → xfar (Rn * Cn) ph → xGT kK D 279 Q (41, [some (.ref 170), some (.int fr), some (.int goal), some (.long over), none, some (.int (Int32.ofInt 0)), none, none, none, none], [], ph, 0, 0)) : ∀ (s : Nat) (f : Int32) (ph : pm_H), xH xX kK m w ph → E ph → xget ph 170 3 = some (.int R) → xget ph 170 4 = some (.int C) → (∀ (i : Nat) (x : Int32), i < f.toInt.toNat → xget ph 192 i = some (.int x) → (((i : Int) = goal.toInt ∧ x.toInt = 0) ∨ ((i : Int) ≠ goal.toInt ∧ x.toInt = 1000000))) → 0 ≤ f.toInt → ((Rn * Cn : Nat) : Int) ≤ f.toInt + s → xGT kK D 279 Q (3, [some (.ref 170), some (.int fr), some (.int goal), some (.long over), none, some (.int f), none, none, none, none], [], ph, 0, 0) := by
  obtain ⟨D', rfl⟩ : ∃ D', D = D' + 1 := ⟨D - 1, by omega⟩
  have hN : Rn * Cn ≤ 49 := Nat.mul_le_mul r1 c1
  have z00 : (Int32.ofInt 0).toInt = 0 := by decide
  have done : ∀ (f : Int32) (ph : pm_H), xH xX kK m w ph → (∀ (i : Nat) (x : Int32), i < f.toInt.toNat → xget ph 192 i = some (.int x) → (((i : Int) = goal.toInt ∧ x.toInt = 0) ∨ ((i : Int) ≠ goal.toInt ∧ x.toInt = 1000000))) → ((Rn * Cn : Nat) : Int) ≤ f.toInt → xfar (Rn * Cn) ph := fun f ph hP hfill hf => by
    obtain ⟨l, hat, hlen, -⟩ := xA_at (A := 192) hP rfl rfl
    have gl : ∀ i v, l[i]? = some v → xget ph 192 i = some (.int v) := fun i v q => by
      unfold xget
      rw [hat]
      show (l[i]?).map Value.int = _
      rw [q]
      rfl
    obtain ⟨gn, hgn⟩ : ∃ n : Nat, goal.toInt = (n : Int) := ⟨goal.toInt.toNat, by omega⟩
    obtain ⟨v, hv⟩ : ∃ v, l[gn]? = some v := ⟨_, List.getElem?_eq_getElem (by omega)⟩
    have hv2 := hfill gn v (by omega) (gl _ _ hv)
    have hpos : 0 < (l.take (Rn * Cn)).countP xfin := by
      refine List.countP_pos_iff.mpr ⟨v, ?_, xfin_t (by omega)⟩
      refine List.mem_of_getElem? (i := gn) ?_
      rw [List.getElem?_take_of_lt (by omega)]
      exact hv
    refine ⟨l, hat, hlen, fun i x hi hx => ?_⟩
    rcases hfill i x (by omega) (gl _ _ hx) with ⟨-, h⟩ | ⟨-, h⟩
    · exact Or.inr ⟨by omega, by omega⟩
    · exact Or.inl h
  intro s
  induction s with
  | zero =>
    intro f ph hP g9 hR hC hfill hf0 hfs
    refine gt_load (v := .int f) (n := 2) (ykc_279 (e := (2, .iload 5, 0)) rfl) rfl rfl ?_
    refine gt_load (v := .ref 170) (n := 1) (ykc_279 (e := (2, .aload_n kF0, 0)) rfl) rfl rfl ?_
    refine gt_cv (n := 0) (as := [.ref 170]) (r := [.int f]) (ykc_279 (e := (6, .invokevirtual 122, 0)) rfl) rfl hP rfl rfl rfl (xfields (D := D') hP hR hC eR eC r1 c1) rfl (fun vv ph1 hv => ?_)
    obtain ⟨n, e9, e8, h_n⟩ := hv; subst e9; have e7 := e8.symm; subst e7
    change xGT kK (D' + 1) 279 Q (9, [some (.ref 170), some (.int fr), some (.int goal), some (.long over), none, some (.int f), none, none, none, none], [.int n, .int f], ph, 0, 0)
    refine gt_ige_t (ykc_279 (e := (4, .if_icmp .ge 29, 38)) rfl) (by omega) ?_
    refine gt_alu (st' := [.int (Int32.ofInt 0)]) (ykc_279 (e := (0, .iconst 0, 0)) rfl) rfl rfl ?_
    refine gt_store (L' := [some (.ref 170), some (.int fr), some (.int goal), some (.long over), none, some (.int (Int32.ofInt 0)), none, none, none, none]) (st' := []) (n := 2) (ykc_279 (e := (3, .istore 5, 0)) rfl) rfl rfl ?_
    exact kk ph hP g9 hR hC (done f ph hP hfill (by omega))
  | succ s ih =>
    intro f ph hP g9 hR hC hfill hf0 hfs
    by_cases hfN : ((Rn * Cn : Nat) : Int) ≤ f.toInt
    · refine gt_load (v := .int f) (n := 2) (ykc_279 (e := (2, .iload 5, 0)) rfl) rfl rfl ?_
      refine gt_load (v := .ref 170) (n := 1) (ykc_279 (e := (2, .aload_n kF0, 0)) rfl) rfl rfl ?_
      refine gt_cv (n := 0) (as := [.ref 170]) (r := [.int f]) (ykc_279 (e := (6, .invokevirtual 122, 0)) rfl) rfl hP rfl rfl rfl (xfields (D := D') hP hR hC eR eC r1 c1) rfl (fun vv ph1 hv => ?_)
      obtain ⟨n, e9, e8, h_n⟩ := hv; subst e9; have e7 := e8.symm; subst e7
      change xGT kK (D' + 1) 279 Q (9, [some (.ref 170), some (.int fr), some (.int goal), some (.long over), none, some (.int f), none, none, none, none], [.int n, .int f], ph, 0, 0)
      refine gt_ige_t (ykc_279 (e := (4, .if_icmp .ge 29, 38)) rfl) (by omega) ?_
      refine gt_alu (st' := [.int (Int32.ofInt 0)]) (ykc_279 (e := (0, .iconst 0, 0)) rfl) rfl rfl ?_
      refine gt_store (L' := [some (.ref 170), some (.int fr), some (.int goal), some (.long over), none, some (.int (Int32.ofInt 0)), none, none, none, none]) (st' := []) (n := 2) (ykc_279 (e := (3, .istore 5, 0)) rfl) rfl rfl ?_
      exact kk ph hP g9 hR hC (done f ph hP hfill (by omega))
    refine gt_load (v := .int f) (n := 2) (ykc_279 (e := (2, .iload 5, 0)) rfl) rfl rfl ?_
    refine gt_load (v := .ref 170) (n := 1) (ykc_279 (e := (2, .aload_n kF0, 0)) rfl) rfl rfl ?_
    refine gt_cv (n := 0) (as := [.ref 170]) (r := [.int f]) (ykc_279 (e := (6, .invokevirtual 122, 0)) rfl) rfl hP rfl rfl rfl (xfields (D := D') hP hR hC eR eC r1 c1) rfl (fun vv ph1 hv => ?_)
    obtain ⟨n, e9, e8, h_n⟩ := hv; subst e9; have e7 := e8.symm; subst e7
    change xGT kK (D' + 1) 279 Q (9, [some (.ref 170), some (.int fr), some (.int goal), some (.long over), none, some (.int f), none, none, none, none], [.int n, .int f], ph, 0, 0)
    refine gt_ige_f (ykc_279 (e := (4, .if_icmp .ge 29, 38)) rfl) (by omega) rfl ?_
    refine gt_load (v := .ref 170) (n := 1) (ykc_279 (e := (2, .aload_n kF0, 0)) rfl) rfl rfl ?_
    refine gt_gfr (A := 192) (ykc_279 (e := (5, .getfield 95, 0)) rfl) rfl hP rfl rfl rfl ?_
    refine gt_load (v := .int f) (n := 2) (ykc_279 (e := (2, .iload 5, 0)) rfl) rfl rfl ?_
    refine gt_load (v := .int f) (n := 2) (ykc_279 (e := (2, .iload 5, 0)) rfl) rfl rfl ?_
    refine gt_load (v := .int goal) (n := 1) (ykc_279 (e := (2, .iload_n kF2, 0)) rfl) rfl rfl ?_
    by_cases hfg : f.toInt ≠ goal.toInt
    · refine gt_ine_t (ykc_279 (e := (4, .if_icmp .ne 7, 28)) rfl) hfg ?_
      refine gt_push (v := .int (1000000 : Int32)) (n := 3) (ykc_279 (e := (1, .ldc_w 432, 0)) rfl) rfl rfl ?_
      refine gt_ias (A := 192) (y := (1000000 : Int32)) (x := f) (ykc_279 (e := (5, .iastore, 0)) rfl) hP rfl rfl (by omega) (by omega) xany rfl (fun ph202 hP202 u202 => ?_)
      have f202_3 : xget ph202 170 3 = some (.int R) := (u202.2.1 170 3 (fun q => absurd q.1 (by decide))).trans hR
      have f202_4 : xget ph202 170 4 = some (.int C) := (u202.2.1 170 4 (fun q => absurd q.1 (by decide))).trans hC
      obtain ⟨f1, e_f1, h_f1⟩ : ∃ zq : Int32, f + Int32.ofInt 1 = zq ∧ zq.toInt = f.toInt + 1 := ⟨_, rfl, by rw [ti_add (by rw [xi1]; omega) (by rw [xi1]; omega), xi1]⟩
      refine gt_store (L' := [some (.ref 170), some (.int fr), some (.int goal), some (.long over), none, some (.int f1), none, none, none, none]) (st' := []) (n := 3) (ykc_279 (e := (3, .iinc 5 1, 0)) rfl) (by rw [← e_f1]; rfl) rfl ?_
      refine gt_br (pc' := 3) (st' := []) (ykc_279 (e := (4, .goto (-32), 3)) rfl) rfl ?_
      exact ih f1 ph202 hP202 (xu1_E hE u202 rfl rfl rfl g9) ((u202.2.1 170 3 (fun q => absurd q.1 (by decide))).trans hR) ((u202.2.1 170 4 (fun q => absurd q.1 (by decide))).trans hC) (fun i x hi hx => by
        by_cases ei : i = f.toInt.toNat
        · subst ei
          have e9 := xget_int hx u202.1
          subst e9
          exact Or.inr ⟨by omega, by decide⟩
        · exact hfill i x (by omega) ((u202.2.1 192 i (fun q => ei q.2)).symm.trans hx)) (by omega) (by omega)
    · refine gt_ine_f (ykc_279 (e := (4, .if_icmp .ne 7, 28)) rfl) (by omega) rfl ?_
      refine gt_alu (st' := [.int (Int32.ofInt 0), .int f, .ref 192]) (ykc_279 (e := (0, .iconst 0, 0)) rfl) rfl rfl ?_
      refine gt_br (pc' := 31) (st' := [.int (Int32.ofInt 0), .int f, .ref 192]) (ykc_279 (e := (4, .goto 6, 31)) rfl) rfl ?_
      refine gt_ias (A := 192) (y := Int32.ofInt 0) (x := f) (ykc_279 (e := (5, .iastore, 0)) rfl) hP rfl rfl (by omega) (by omega) xany rfl (fun ph202 hP202 u202 => ?_)
      have f202_3 : xget ph202 170 3 = some (.int R) := (u202.2.1 170 3 (fun q => absurd q.1 (by decide))).trans hR
      have f202_4 : xget ph202 170 4 = some (.int C) := (u202.2.1 170 4 (fun q => absurd q.1 (by decide))).trans hC
      obtain ⟨f1, e_f1, h_f1⟩ : ∃ zq : Int32, f + Int32.ofInt 1 = zq ∧ zq.toInt = f.toInt + 1 := ⟨_, rfl, by rw [ti_add (by rw [xi1]; omega) (by rw [xi1]; omega), xi1]⟩
      refine gt_store (L' := [some (.ref 170), some (.int fr), some (.int goal), some (.long over), none, some (.int f1), none, none, none, none]) (st' := []) (n := 3) (ykc_279 (e := (3, .iinc 5 1, 0)) rfl) (by rw [← e_f1]; rfl) rfl ?_
      refine gt_br (pc' := 3) (st' := []) (ykc_279 (e := (4, .goto (-32), 3)) rfl) rfl ?_
      exact ih f1 ph202 hP202 (xu1_E hE u202 rfl rfl rfl g9) ((u202.2.1 170 3 (fun q => absurd q.1 (by decide))).trans hR) ((u202.2.1 170 4 (fun q => absurd q.1 (by decide))).trans hC) (fun i x hi hx => by
        by_cases ei : i = f.toInt.toNat
        · subst ei
          have e9 := xget_int hx u202.1
          subst e9
          exact Or.inl ⟨by omega, by decide⟩
        · exact hfill i x (by omega) ((u202.2.1 192 i (fun q => ei q.2)).symm.trans hx)) (by omega) (by omega)

set_option maxRecDepth 6000 in
theorem xlaysSteps {E : pm_H → Prop} (hE : xHE xX xgA_G97 xgF_G97 E) {m : Int} {w D Rn Cn : Nat} {R C fr goal : Int32} {over : Int64} (hm : m ≤ 2147483646) (hw : (w : Int) ≤ m) (hD : 5 ≤ D) (eR : R.toInt = (Rn : Int)) (eC : C.toInt = (Cn : Int)) (r0 : 3 ≤ Rn) (r1 : Rn ≤ 7) (c0 : 3 ≤ Cn) (c1 : Cn ≤ 7) (hg0 : 0 ≤ goal.toInt) (hg1 : goal.toInt < ((Rn * Cn : Nat) : Int)) {ph : pm_H} (hP : xH xX kK m w ph) (g9 : E ph) (hR : xget ph 170 3 = some (.int R)) (hC : xget ph 170 4 = some (.int C)) : ∃ v ph', pm_Rd kK false (D + 1) 279 [.ref 170, .int fr, .int goal, .long over] ph (v, ph', 0, 0) ∧ (v = none ∧ xH xX kK m w ph' ∧ E ph' ∧ xget ph' 170 3 = some (.int R) ∧ xget ph' 170 4 = some (.int C) ∧ xfar (Rn * Cn) ph') := by
  have z0 : (Int32.ofInt 0).toInt = 0 := by decide
  refine xRd_mk (nl := 10) rfl rfl ?_
  show xGT kK D 279 _ (0, [some (.ref 170), some (.int fr), some (.int goal), some (.long over), none, none, none, none, none, none], [], ph, 0, 0)
  refine gt_alu (st' := [.int (Int32.ofInt 0)]) (ykc_279 (e := (0, .iconst 0, 0)) rfl) rfl rfl ?_
  refine gt_store (L' := [some (.ref 170), some (.int fr), some (.int goal), some (.long over), none, some (.int (Int32.ofInt 0)), none, none, none, none]) (st' := []) (n := 2) (ykc_279 (e := (3, .istore 5, 0)) rfl) rfl rfl ?_
  refine xlays_0 hE hm hw hD eR eC r0 r1 c0 c1 hg0 hg1 ?_ (Rn * Cn) _ ph hP g9 hR hC (fun i x hi => by rw [z0] at hi; exact absurd hi (Nat.not_lt_zero _)) (by omega) (by omega)
  intro ph1 hP1 g91 hR1 hC1 hfar1
  refine xlays_n hE hm hw hD eR eC r0 r1 c0 c1 ?_ (Rn * Cn) _ _ _ _ _ ph1 hP1 g91 hR1 hC1 hfar1 (by omega) (by omega)
  intro o5 o6 o7 o8 o9 ph2 hP2 g92 hR2 hC2 hfar2
  refine gt_ret (ykc_279 (e := (7, .return_, 0)) rfl) rfl ?_
  exact ⟨rfl, hP2, g92, hR2, hC2, hfar2⟩

set_option maxRecDepth 6000 in
theorem xway_w {E : pm_H → Prop} (hE : xHE xX xgA_G97 xgF_G97 E) {m : Int} {w D Rn Cn : Nat} {R C fr goal : Int32} {over : Int64} {Q : Option Value → pm_H → Prop} (hm : m ≤ 2147483646) (hw : (w : Int) ≤ m) (hD : 5 ≤ D) (eR : R.toInt = (Rn : Int)) (eC : C.toInt = (Cn : Int)) (r0 : 3 ≤ Rn) (r1 : Rn ≤ 7) (c0 : 3 ≤ Cn) (c1 : Cn ≤ 7) {x f left : Int32} (hf0 : -1 ≤ f.toInt) (hf1 : f.toInt ≤ 48) {ph : pm_H} (hP : xH xX kK m w ph) (hR : xget ph 170 3 = some (.int R)) (hC : xget ph 170 4 = some (.int C)) (kk : ∀ (nx k : Int32) (o9 o10 : Option Value), -1 ≤ nx.toInt → nx.toInt ≤ 48 → xGT kK D 280 Q (164, [some (.ref 170), some (.int fr), some (.int goal), some (.long over), none, some (.int f), some (.int left), some (.int nx), some (.int k), o9, o10], [], ph, 0, 0)) : ∀ (s : Nat) (nx k : Int32) (o9 o10 : Option Value), -1 ≤ nx.toInt → nx.toInt ≤ 48 → 0 ≤ k.toInt → 8 ≤ k.toInt + s → xGT kK D 280 Q (76, [some (.ref 170), some (.int fr), some (.int goal), some (.long over), none, some (.int f), some (.int left), some (.int nx), some (.int k), o9, o10], [], ph, 0, 0) := by
  obtain ⟨D', rfl⟩ : ∃ D', D = D' + 1 := ⟨D - 1, by omega⟩
  have hN : Rn * Cn ≤ 49 := Nat.mul_le_mul r1 c1
  intro s
  induction s with
  | zero =>
    intro nx k o9 o10 hn0 hn1 hk0 hks
    refine gt_load (v := .int k) (n := 2) (ykc_280 (e := (2, .iload 8, 0)) rfl) rfl rfl ?_
    refine gt_push (v := .int ((Int8.ofInt 8).toInt32)) (n := 2) (ykc_280 (e := (1, .bipush 8, 0)) rfl) rfl rfl ?_
    refine gt_ige_t (ykc_280 (e := (4, .if_icmp .ge 84, 164)) rfl) (by rw [xc8]; omega) ?_
    exact kk _ _ _ _ hn0 hn1
  | succ s ih0 =>
    have ih : ∀ (nx k : Int32) (o9 o10 : Option Value), -1 ≤ nx.toInt → nx.toInt ≤ 48 → 0 ≤ k.toInt → 8 ≤ k.toInt + s → xGT kK (D' + 1) 280 Q (76, [some (.ref 170), some (.int fr), some (.int goal), some (.long over), none, some (.int f), some (.int left), some (.int nx), some (.int k), o9, o10], [], ph, 0, 0) := ih0
    intro nx k o9 o10 hn0 hn1 hk0 hks
    by_cases hk8 : 8 ≤ k.toInt
    · refine gt_load (v := .int k) (n := 2) (ykc_280 (e := (2, .iload 8, 0)) rfl) rfl rfl ?_
      refine gt_push (v := .int ((Int8.ofInt 8).toInt32)) (n := 2) (ykc_280 (e := (1, .bipush 8, 0)) rfl) rfl rfl ?_
      refine gt_ige_t (ykc_280 (e := (4, .if_icmp .ge 84, 164)) rfl) (by rw [xc8]; omega) ?_
      exact kk _ _ _ _ hn0 hn1
    refine gt_load (v := .int k) (n := 2) (ykc_280 (e := (2, .iload 8, 0)) rfl) rfl rfl ?_
    refine gt_push (v := .int ((Int8.ofInt 8).toInt32)) (n := 2) (ykc_280 (e := (1, .bipush 8, 0)) rfl) rfl rfl ?_
    refine gt_ige_f (ykc_280 (e := (4, .if_icmp .ge 84, 164)) rfl) (by rw [xc8]; omega) rfl ?_
    refine gt_load (v := .ref 170) (n := 1) (ykc_280 (e := (2, .aload_n kF0, 0)) rfl) rfl rfl ?_
    refine gt_load (v := .int f) (n := 2) (ykc_280 (e := (2, .iload 5, 0)) rfl) rfl rfl ?_
    refine gt_load (v := .int k) (n := 2) (ykc_280 (e := (2, .iload 8, 0)) rfl) rfl rfl ?_
    refine gt_cv (n := 2) (as := [.ref 170, .int f, .int k]) (r := []) (ykc_280 (e := (6, .invokevirtual 353, 0)) rfl) rfl hP rfl rfl rfl (xbeside hm hw (by omega) hP hR hC eR eC r0 r1 c0 c1 (by omega) (by omega) (by omega) (by omega)) rfl (fun vv ph101 hv => ?_)
    obtain ⟨g, e9, e8, g0, g1⟩ := hv; subst e9; have e7 := e8.symm; subst e7
    change xGT kK (D' + 1) 280 Q (91, [some (.ref 170), some (.int fr), some (.int goal), some (.long over), none, some (.int f), some (.int left), some (.int nx), some (.int k), o9, o10], [.int g], ph, 0, 0)
    refine gt_store (L' := [some (.ref 170), some (.int fr), some (.int goal), some (.long over), none, some (.int f), some (.int left), some (.int nx), some (.int k), some (.int g), o10]) (st' := []) (n := 2) (ykc_280 (e := (3, .istore 9, 0)) rfl) rfl rfl ?_
    refine gt_load (v := .int g) (n := 2) (ykc_280 (e := (2, .iload 9, 0)) rfl) rfl rfl ?_
    by_cases hg : g.toInt < 0
    · refine gt_zlt_t (ykc_280 (e := (4, .ifCond .lt 34, 129)) rfl) hg ?_
      refine gt_alu (st' := [.int (Int32.ofInt 0)]) (ykc_280 (e := (0, .iconst 0, 0)) rfl) rfl rfl ?_
      refine gt_store (L' := [some (.ref 170), some (.int fr), some (.int goal), some (.long over), none, some (.int f), some (.int left), some (.int nx), some (.int k), some (.int g), some (.int (Int32.ofInt 0))]) (st' := []) (n := 2) (ykc_280 (e := (3, .istore 10, 0)) rfl) rfl rfl ?_
      refine gt_load (v := .int (Int32.ofInt 0)) (n := 2) (ykc_280 (e := (2, .iload 10, 0)) rfl) rfl rfl ?_
      refine gt_zeq_t (ykc_280 (e := (4, .ifCond .eq 20, 154)) rfl) (by decide) ?_
      refine gt_load (v := .int nx) (n := 2) (ykc_280 (e := (2, .iload 7, 0)) rfl) rfl rfl ?_
      refine gt_store (L' := [some (.ref 170), some (.int fr), some (.int goal), some (.long over), none, some (.int f), some (.int left), some (.int nx), some (.int k), some (.int g), some (.int (Int32.ofInt 0))]) (st' := []) (n := 2) (ykc_280 (e := (3, .istore 7, 0)) rfl) rfl rfl ?_
      obtain ⟨k1, e_k1, h_k1⟩ : ∃ zq : Int32, k + Int32.ofInt 1 = zq ∧ zq.toInt = k.toInt + 1 := ⟨_, rfl, by rw [ti_add (by rw [xi1]; omega) (by rw [xi1]; omega), xi1]⟩
      refine gt_store (L' := [some (.ref 170), some (.int fr), some (.int goal), some (.long over), none, some (.int f), some (.int left), some (.int nx), some (.int k1), some (.int g), some (.int (Int32.ofInt 0))]) (st' := []) (n := 3) (ykc_280 (e := (3, .iinc 8 1, 0)) rfl) (by rw [← e_k1]; rfl) rfl ?_
      refine gt_br (pc' := 76) (st' := []) (ykc_280 (e := (4, .goto (-85), 76)) rfl) rfl ?_
      exact ih nx k1 _ _ (by omega) (by omega) (by omega) (by omega)
    · refine gt_zlt_f (ykc_280 (e := (4, .ifCond .lt 34, 129)) rfl) (by omega) rfl ?_
      refine gt_load (v := .ref 170) (n := 1) (ykc_280 (e := (2, .aload_n kF0, 0)) rfl) rfl rfl ?_
      refine gt_gfr (A := 192) (ykc_280 (e := (5, .getfield 95, 0)) rfl) rfl hP rfl rfl rfl ?_
      refine gt_load (v := .int g) (n := 2) (ykc_280 (e := (2, .iload 9, 0)) rfl) rfl rfl ?_
      refine gt_ial (A := 192) (ykc_280 (e := (5, .iaload, 0)) rfl) hP rfl rfl (by omega) (by omega) rfl (fun v g_v b_v => ?_)
      refine gt_load (v := .int left) (n := 2) (ykc_280 (e := (2, .iload 6, 0)) rfl) rfl rfl ?_
      by_cases hv9 : v.toInt ≠ left.toInt
      · refine gt_ine_t (ykc_280 (e := (4, .if_icmp .ne 22, 129)) rfl) hv9 ?_
        refine gt_alu (st' := [.int (Int32.ofInt 0)]) (ykc_280 (e := (0, .iconst 0, 0)) rfl) rfl rfl ?_
        refine gt_store (L' := [some (.ref 170), some (.int fr), some (.int goal), some (.long over), none, some (.int f), some (.int left), some (.int nx), some (.int k), some (.int g), some (.int (Int32.ofInt 0))]) (st' := []) (n := 2) (ykc_280 (e := (3, .istore 10, 0)) rfl) rfl rfl ?_
        refine gt_load (v := .int (Int32.ofInt 0)) (n := 2) (ykc_280 (e := (2, .iload 10, 0)) rfl) rfl rfl ?_
        refine gt_zeq_t (ykc_280 (e := (4, .ifCond .eq 20, 154)) rfl) (by decide) ?_
        refine gt_load (v := .int nx) (n := 2) (ykc_280 (e := (2, .iload 7, 0)) rfl) rfl rfl ?_
        refine gt_store (L' := [some (.ref 170), some (.int fr), some (.int goal), some (.long over), none, some (.int f), some (.int left), some (.int nx), some (.int k), some (.int g), some (.int (Int32.ofInt 0))]) (st' := []) (n := 2) (ykc_280 (e := (3, .istore 7, 0)) rfl) rfl rfl ?_
        obtain ⟨k1, e_k1, h_k1⟩ : ∃ zq : Int32, k + Int32.ofInt 1 = zq ∧ zq.toInt = k.toInt + 1 := ⟨_, rfl, by rw [ti_add (by rw [xi1]; omega) (by rw [xi1]; omega), xi1]⟩
        refine gt_store (L' := [some (.ref 170), some (.int fr), some (.int goal), some (.long over), none, some (.int f), some (.int left), some (.int nx), some (.int k1), some (.int g), some (.int (Int32.ofInt 0))]) (st' := []) (n := 3) (ykc_280 (e := (3, .iinc 8 1, 0)) rfl) (by rw [← e_k1]; rfl) rfl ?_
        refine gt_br (pc' := 76) (st' := []) (ykc_280 (e := (4, .goto (-85), 76)) rfl) rfl ?_
        exact ih nx k1 _ _ (by omega) (by omega) (by omega) (by omega)
      · refine gt_ine_f (ykc_280 (e := (4, .if_icmp .ne 22, 129)) rfl) (by omega) rfl ?_
        refine gt_load (v := .int g) (n := 2) (ykc_280 (e := (2, .iload 9, 0)) rfl) rfl rfl ?_
        refine gt_load (v := .int goal) (n := 1) (ykc_280 (e := (2, .iload_n kF2, 0)) rfl) rfl rfl ?_
        by_cases hgg : g.toInt = goal.toInt
        · refine gt_ieq_t (ykc_280 (e := (4, .if_icmp .eq 12, 125)) rfl) hgg ?_
          refine gt_alu (st' := [.int (Int32.ofInt 1)]) (ykc_280 (e := (0, .iconst 1, 0)) rfl) rfl rfl ?_
          refine gt_br (pc' := 130) (st' := [.int (Int32.ofInt 1)]) (ykc_280 (e := (4, .goto 4, 130)) rfl) rfl ?_
          refine gt_store (L' := [some (.ref 170), some (.int fr), some (.int goal), some (.long over), none, some (.int f), some (.int left), some (.int nx), some (.int k), some (.int g), some (.int (Int32.ofInt 1))]) (st' := []) (n := 2) (ykc_280 (e := (3, .istore 10, 0)) rfl) rfl rfl ?_
          refine gt_load (v := .int (Int32.ofInt 1)) (n := 2) (ykc_280 (e := (2, .iload 10, 0)) rfl) rfl rfl ?_
          refine gt_zeq_f (ykc_280 (e := (4, .ifCond .eq 20, 154)) rfl) (by decide) rfl ?_
          refine gt_load (v := .int nx) (n := 2) (ykc_280 (e := (2, .iload 7, 0)) rfl) rfl rfl ?_
          by_cases hn0 : nx.toInt < 0
          · refine gt_zlt_t (ykc_280 (e := (4, .ifCond .lt 10, 149)) rfl) hn0 ?_
            refine gt_load (v := .int g) (n := 2) (ykc_280 (e := (2, .iload 9, 0)) rfl) rfl rfl ?_
            refine gt_br (pc' := 156) (st' := [.int g]) (ykc_280 (e := (4, .goto 5, 156)) rfl) rfl ?_
            refine gt_store (L' := [some (.ref 170), some (.int fr), some (.int goal), some (.long over), none, some (.int f), some (.int left), some (.int g), some (.int k), some (.int g), some (.int (Int32.ofInt 1))]) (st' := []) (n := 2) (ykc_280 (e := (3, .istore 7, 0)) rfl) rfl rfl ?_
            obtain ⟨k1, e_k1, h_k1⟩ : ∃ zq : Int32, k + Int32.ofInt 1 = zq ∧ zq.toInt = k.toInt + 1 := ⟨_, rfl, by rw [ti_add (by rw [xi1]; omega) (by rw [xi1]; omega), xi1]⟩
            refine gt_store (L' := [some (.ref 170), some (.int fr), some (.int goal), some (.long over), none, some (.int f), some (.int left), some (.int g), some (.int k1), some (.int g), some (.int (Int32.ofInt 1))]) (st' := []) (n := 3) (ykc_280 (e := (3, .iinc 8 1, 0)) rfl) (by rw [← e_k1]; rfl) rfl ?_
            refine gt_br (pc' := 76) (st' := []) (ykc_280 (e := (4, .goto (-85), 76)) rfl) rfl ?_
            exact ih g k1 _ _ (by omega) (by omega) (by omega) (by omega)
          · refine gt_zlt_f (ykc_280 (e := (4, .ifCond .lt 10, 149)) rfl) (by omega) rfl ?_
            refine gt_load (v := .int g) (n := 2) (ykc_280 (e := (2, .iload 9, 0)) rfl) rfl rfl ?_
            refine gt_load (v := .int nx) (n := 2) (ykc_280 (e := (2, .iload 7, 0)) rfl) rfl rfl ?_
            by_cases hgn : nx.toInt ≤ g.toInt
            · refine gt_ige_t (ykc_280 (e := (4, .if_icmp .ge 8, 154)) rfl) hgn ?_
              refine gt_load (v := .int nx) (n := 2) (ykc_280 (e := (2, .iload 7, 0)) rfl) rfl rfl ?_
              refine gt_store (L' := [some (.ref 170), some (.int fr), some (.int goal), some (.long over), none, some (.int f), some (.int left), some (.int nx), some (.int k), some (.int g), some (.int (Int32.ofInt 1))]) (st' := []) (n := 2) (ykc_280 (e := (3, .istore 7, 0)) rfl) rfl rfl ?_
              obtain ⟨k1, e_k1, h_k1⟩ : ∃ zq : Int32, k + Int32.ofInt 1 = zq ∧ zq.toInt = k.toInt + 1 := ⟨_, rfl, by rw [ti_add (by rw [xi1]; omega) (by rw [xi1]; omega), xi1]⟩
              refine gt_store (L' := [some (.ref 170), some (.int fr), some (.int goal), some (.long over), none, some (.int f), some (.int left), some (.int nx), some (.int k1), some (.int g), some (.int (Int32.ofInt 1))]) (st' := []) (n := 3) (ykc_280 (e := (3, .iinc 8 1, 0)) rfl) (by rw [← e_k1]; rfl) rfl ?_
              refine gt_br (pc' := 76) (st' := []) (ykc_280 (e := (4, .goto (-85), 76)) rfl) rfl ?_
              exact ih nx k1 _ _ (by omega) (by omega) (by omega) (by omega)
            · refine gt_ige_f (ykc_280 (e := (4, .if_icmp .ge 8, 154)) rfl) (by omega) rfl ?_
              refine gt_load (v := .int g) (n := 2) (ykc_280 (e := (2, .iload 9, 0)) rfl) rfl rfl ?_
              refine gt_br (pc' := 156) (st' := [.int g]) (ykc_280 (e := (4, .goto 5, 156)) rfl) rfl ?_
              refine gt_store (L' := [some (.ref 170), some (.int fr), some (.int goal), some (.long over), none, some (.int f), some (.int left), some (.int g), some (.int k), some (.int g), some (.int (Int32.ofInt 1))]) (st' := []) (n := 2) (ykc_280 (e := (3, .istore 7, 0)) rfl) rfl rfl ?_
              obtain ⟨k1, e_k1, h_k1⟩ : ∃ zq : Int32, k + Int32.ofInt 1 = zq ∧ zq.toInt = k.toInt + 1 := ⟨_, rfl, by rw [ti_add (by rw [xi1]; omega) (by rw [xi1]; omega), xi1]⟩
              refine gt_store (L' := [some (.ref 170), some (.int fr), some (.int goal), some (.long over), none, some (.int f), some (.int left), some (.int g), some (.int k1), some (.int g), some (.int (Int32.ofInt 1))]) (st' := []) (n := 3) (ykc_280 (e := (3, .iinc 8 1, 0)) rfl) (by rw [← e_k1]; rfl) rfl ?_
              refine gt_br (pc' := 76) (st' := []) (ykc_280 (e := (4, .goto (-85), 76)) rfl) rfl ?_
              exact ih g k1 _ _ (by omega) (by omega) (by omega) (by omega)
        · refine gt_ieq_f (ykc_280 (e := (4, .if_icmp .eq 12, 125)) rfl) hgg rfl ?_
          refine gt_load (v := .long over) (n := 1) (ykc_280 (e := (2, .lload_n kF3, 0)) rfl) rfl rfl ?_
          refine gt_load (v := .int g) (n := 2) (ykc_280 (e := (2, .iload 9, 0)) rfl) rfl rfl ?_
          refine gt_cs (n := 2) (as := [.long over, .int g]) (r := []) (ykc_280 (e := (6, .invokestatic 304, 0)) rfl) rfl rfl rfl rfl (xhas_run (D := D')) rfl (fun vv ph402 hv => ?_)
          obtain ⟨z1, e9, e8, z1_s⟩ := hv; subst e9; have e7 := e8.symm; subst e7
          change xGT kK (D' + 1) 280 Q (122, [some (.ref 170), some (.int fr), some (.int goal), some (.long over), none, some (.int f), some (.int left), some (.int nx), some (.int k), some (.int g), o10], [.int z1], ph, 0, 0)
          by_cases hz1 : z1.toInt = 0
          · refine gt_zeq_t (ykc_280 (e := (4, .ifCond .eq 7, 129)) rfl) hz1 ?_
            refine gt_alu (st' := [.int (Int32.ofInt 0)]) (ykc_280 (e := (0, .iconst 0, 0)) rfl) rfl rfl ?_
            refine gt_store (L' := [some (.ref 170), some (.int fr), some (.int goal), some (.long over), none, some (.int f), some (.int left), some (.int nx), some (.int k), some (.int g), some (.int (Int32.ofInt 0))]) (st' := []) (n := 2) (ykc_280 (e := (3, .istore 10, 0)) rfl) rfl rfl ?_
            refine gt_load (v := .int (Int32.ofInt 0)) (n := 2) (ykc_280 (e := (2, .iload 10, 0)) rfl) rfl rfl ?_
            refine gt_zeq_t (ykc_280 (e := (4, .ifCond .eq 20, 154)) rfl) (by decide) ?_
            refine gt_load (v := .int nx) (n := 2) (ykc_280 (e := (2, .iload 7, 0)) rfl) rfl rfl ?_
            refine gt_store (L' := [some (.ref 170), some (.int fr), some (.int goal), some (.long over), none, some (.int f), some (.int left), some (.int nx), some (.int k), some (.int g), some (.int (Int32.ofInt 0))]) (st' := []) (n := 2) (ykc_280 (e := (3, .istore 7, 0)) rfl) rfl rfl ?_
            obtain ⟨k1, e_k1, h_k1⟩ : ∃ zq : Int32, k + Int32.ofInt 1 = zq ∧ zq.toInt = k.toInt + 1 := ⟨_, rfl, by rw [ti_add (by rw [xi1]; omega) (by rw [xi1]; omega), xi1]⟩
            refine gt_store (L' := [some (.ref 170), some (.int fr), some (.int goal), some (.long over), none, some (.int f), some (.int left), some (.int nx), some (.int k1), some (.int g), some (.int (Int32.ofInt 0))]) (st' := []) (n := 3) (ykc_280 (e := (3, .iinc 8 1, 0)) rfl) (by rw [← e_k1]; rfl) rfl ?_
            refine gt_br (pc' := 76) (st' := []) (ykc_280 (e := (4, .goto (-85), 76)) rfl) rfl ?_
            exact ih nx k1 _ _ (by omega) (by omega) (by omega) (by omega)
          · refine gt_zeq_f (ykc_280 (e := (4, .ifCond .eq 7, 129)) rfl) hz1 rfl ?_
            refine gt_alu (st' := [.int (Int32.ofInt 1)]) (ykc_280 (e := (0, .iconst 1, 0)) rfl) rfl rfl ?_
            refine gt_br (pc' := 130) (st' := [.int (Int32.ofInt 1)]) (ykc_280 (e := (4, .goto 4, 130)) rfl) rfl ?_
            refine gt_store (L' := [some (.ref 170), some (.int fr), some (.int goal), some (.long over), none, some (.int f), some (.int left), some (.int nx), some (.int k), some (.int g), some (.int (Int32.ofInt 1))]) (st' := []) (n := 2) (ykc_280 (e := (3, .istore 10, 0)) rfl) rfl rfl ?_
            refine gt_load (v := .int (Int32.ofInt 1)) (n := 2) (ykc_280 (e := (2, .iload 10, 0)) rfl) rfl rfl ?_
            refine gt_zeq_f (ykc_280 (e := (4, .ifCond .eq 20, 154)) rfl) (by decide) rfl ?_
            refine gt_load (v := .int nx) (n := 2) (ykc_280 (e := (2, .iload 7, 0)) rfl) rfl rfl ?_
            by_cases hn0 : nx.toInt < 0
            · refine gt_zlt_t (ykc_280 (e := (4, .ifCond .lt 10, 149)) rfl) hn0 ?_
              refine gt_load (v := .int g) (n := 2) (ykc_280 (e := (2, .iload 9, 0)) rfl) rfl rfl ?_
              refine gt_br (pc' := 156) (st' := [.int g]) (ykc_280 (e := (4, .goto 5, 156)) rfl) rfl ?_
              refine gt_store (L' := [some (.ref 170), some (.int fr), some (.int goal), some (.long over), none, some (.int f), some (.int left), some (.int g), some (.int k), some (.int g), some (.int (Int32.ofInt 1))]) (st' := []) (n := 2) (ykc_280 (e := (3, .istore 7, 0)) rfl) rfl rfl ?_
              obtain ⟨k1, e_k1, h_k1⟩ : ∃ zq : Int32, k + Int32.ofInt 1 = zq ∧ zq.toInt = k.toInt + 1 := ⟨_, rfl, by rw [ti_add (by rw [xi1]; omega) (by rw [xi1]; omega), xi1]⟩
              refine gt_store (L' := [some (.ref 170), some (.int fr), some (.int goal), some (.long over), none, some (.int f), some (.int left), some (.int g), some (.int k1), some (.int g), some (.int (Int32.ofInt 1))]) (st' := []) (n := 3) (ykc_280 (e := (3, .iinc 8 1, 0)) rfl) (by rw [← e_k1]; rfl) rfl ?_
              refine gt_br (pc' := 76) (st' := []) (ykc_280 (e := (4, .goto (-85), 76)) rfl) rfl ?_
              exact ih g k1 _ _ (by omega) (by omega) (by omega) (by omega)
            · refine gt_zlt_f (ykc_280 (e := (4, .ifCond .lt 10, 149)) rfl) (by omega) rfl ?_
              refine gt_load (v := .int g) (n := 2) (ykc_280 (e := (2, .iload 9, 0)) rfl) rfl rfl ?_
              refine gt_load (v := .int nx) (n := 2) (ykc_280 (e := (2, .iload 7, 0)) rfl) rfl rfl ?_
              by_cases hgn : nx.toInt ≤ g.toInt
              · refine gt_ige_t (ykc_280 (e := (4, .if_icmp .ge 8, 154)) rfl) hgn ?_
                refine gt_load (v := .int nx) (n := 2) (ykc_280 (e := (2, .iload 7, 0)) rfl) rfl rfl ?_
                refine gt_store (L' := [some (.ref 170), some (.int fr), some (.int goal), some (.long over), none, some (.int f), some (.int left), some (.int nx), some (.int k), some (.int g), some (.int (Int32.ofInt 1))]) (st' := []) (n := 2) (ykc_280 (e := (3, .istore 7, 0)) rfl) rfl rfl ?_
                obtain ⟨k1, e_k1, h_k1⟩ : ∃ zq : Int32, k + Int32.ofInt 1 = zq ∧ zq.toInt = k.toInt + 1 := ⟨_, rfl, by rw [ti_add (by rw [xi1]; omega) (by rw [xi1]; omega), xi1]⟩
                refine gt_store (L' := [some (.ref 170), some (.int fr), some (.int goal), some (.long over), none, some (.int f), some (.int left), some (.int nx), some (.int k1), some (.int g), some (.int (Int32.ofInt 1))]) (st' := []) (n := 3) (ykc_280 (e := (3, .iinc 8 1, 0)) rfl) (by rw [← e_k1]; rfl) rfl ?_
                refine gt_br (pc' := 76) (st' := []) (ykc_280 (e := (4, .goto (-85), 76)) rfl) rfl ?_
                exact ih nx k1 _ _ (by omega) (by omega) (by omega) (by omega)
              · refine gt_ige_f (ykc_280 (e := (4, .if_icmp .ge 8, 154)) rfl) (by omega) rfl ?_
                refine gt_load (v := .int g) (n := 2) (ykc_280 (e := (2, .iload 9, 0)) rfl) rfl rfl ?_
                refine gt_br (pc' := 156) (st' := [.int g]) (ykc_280 (e := (4, .goto 5, 156)) rfl) rfl ?_
                refine gt_store (L' := [some (.ref 170), some (.int fr), some (.int goal), some (.long over), none, some (.int f), some (.int left), some (.int g), some (.int k), some (.int g), some (.int (Int32.ofInt 1))]) (st' := []) (n := 2) (ykc_280 (e := (3, .istore 7, 0)) rfl) rfl rfl ?_
                obtain ⟨k1, e_k1, h_k1⟩ : ∃ zq : Int32, k + Int32.ofInt 1 = zq ∧ zq.toInt = k.toInt + 1 := ⟨_, rfl, by rw [ti_add (by rw [xi1]; omega) (by rw [xi1]; omega), xi1]⟩
                refine gt_store (L' := [some (.ref 170), some (.int fr), some (.int goal), some (.long over), none, some (.int f), some (.int left), some (.int g), some (.int k1), some (.int g), some (.int (Int32.ofInt 1))]) (st' := []) (n := 3) (ykc_280 (e := (3, .iinc 8 1, 0)) rfl) (by rw [← e_k1]; rfl) rfl ?_
                refine gt_br (pc' := 76) (st' := []) (ykc_280 (e := (4, .goto (-85), 76)) rfl) rfl ?_
                exact ih g k1 _ _ (by omega) (by omega) (by omega) (by omega)

set_option maxRecDepth 6000 in
theorem xway_l {E : pm_H → Prop} (hE : xHE xX xgA_G97 xgF_G97 E) {m : Int} {w D Rn Cn : Nat} {R C fr goal : Int32} {over : Int64} {Q : Option Value → pm_H → Prop} (hm : m ≤ 2147483646) (hw : (w : Int) ≤ m) (hD : 5 ≤ D) (eR : R.toInt = (Rn : Int)) (eC : C.toInt = (Cn : Int)) (r0 : 3 ≤ Rn) (r1 : Rn ≤ 7) (c0 : 3 ≤ Cn) (c1 : Cn ≤ 7) {x : Int32} (hf0 : 0 ≤ fr.toInt) (hf1 : fr.toInt < 49) (hQ : ∀ ph' : pm_H, xH xX kK m w ph' → E ph' → Q (some (.int x)) ph') : ∀ (s : Nat) (f left t : Int32) (o7 o8 o9 o10 : Option Value) (ph : pm_H), xH xX kK m w ph → E ph → xget ph 170 3 = some (.int R) → xget ph 170 4 = some (.int C) → xget ph 170 1 = some (.int t) → xget ph 192 fr.toInt.toNat = some (.int x) → -1 ≤ f.toInt → f.toInt ≤ 48 → left.toInt < s → 0 ≤ t.toInt → t.toInt ≤ 49 → t.toInt + left.toInt ≤ 48 → xGT kK D 280 Q (65, [some (.ref 170), some (.int fr), some (.int goal), some (.long over), none, some (.int f), some (.int left), o7, o8, o9, o10], [], ph, 0, 0) := by
  obtain ⟨D', rfl⟩ : ∃ D', D = D' + 1 := ⟨D - 1, by omega⟩
  have hN : Rn * Cn ≤ 49 := Nat.mul_le_mul r1 c1
  intro s
  induction s with
  | zero =>
    intro f left t o7 o8 o9 o10 ph hP g9 hR hC ht hx f0 f1 hls t0 t1 htl
    have hl : left.toInt < 0 := by omega
    have hA : ∃ l, pm_at ph 192 = some (.inl (0, .inl l)) := by
      obtain ⟨l, h, -⟩ := xA_at (A := 192) hP rfl rfl
      exact ⟨l, h⟩
    refine gt_load (v := .int left) (n := 2) (ykc_280 (e := (2, .iload 6, 0)) rfl) rfl rfl ?_
    refine gt_zlt_t (ykc_280 (e := (4, .ifCond .lt 114, 181)) rfl) hl ?_
    refine gt_load (v := .ref 170) (n := 1) (ykc_280 (e := (2, .aload_n kF0, 0)) rfl) rfl rfl ?_
    refine gt_gfr (A := 192) (ykc_280 (e := (5, .getfield 95, 0)) rfl) rfl hP rfl rfl rfl ?_
    refine gt_load (v := .int fr) (n := 1) (ykc_280 (e := (2, .iload_n kF1, 0)) rfl) rfl rfl ?_
    refine gt_ialk (y := x) (ykc_280 (e := (5, .iaload, 0)) rfl) hx hA (by omega) rfl ?_
    refine gt_ret (ykc_280 (e := (7, .ireturn, 0)) rfl) rfl ?_
    exact hQ _ hP g9
  | succ s ih =>
    intro f left t o7 o8 o9 o10 ph hP g9 hR hC ht hx f0 f1 hls t0 t1 htl
    have hA : ∃ l, pm_at ph 192 = some (.inl (0, .inl l)) := by
      obtain ⟨l, h, -⟩ := xA_at (A := 192) hP rfl rfl
      exact ⟨l, h⟩
    refine gt_load (v := .int left) (n := 2) (ykc_280 (e := (2, .iload 6, 0)) rfl) rfl rfl ?_
    by_cases hl : left.toInt < 0
    · refine gt_zlt_t (ykc_280 (e := (4, .ifCond .lt 114, 181)) rfl) hl ?_
      refine gt_load (v := .ref 170) (n := 1) (ykc_280 (e := (2, .aload_n kF0, 0)) rfl) rfl rfl ?_
      refine gt_gfr (A := 192) (ykc_280 (e := (5, .getfield 95, 0)) rfl) rfl hP rfl rfl rfl ?_
      refine gt_load (v := .int fr) (n := 1) (ykc_280 (e := (2, .iload_n kF1, 0)) rfl) rfl rfl ?_
      refine gt_ialk (y := x) (ykc_280 (e := (5, .iaload, 0)) rfl) hx hA (by omega) rfl ?_
      refine gt_ret (ykc_280 (e := (7, .ireturn, 0)) rfl) rfl ?_
      exact hQ _ hP g9
    · refine gt_zlt_f (ykc_280 (e := (4, .ifCond .lt 114, 181)) rfl) (by omega) rfl ?_
      refine gt_alu (st' := [.int (Int32.ofInt (-1))]) (ykc_280 (e := (0, .iconst (-1), 0)) rfl) rfl rfl ?_
      refine gt_store (L' := [some (.ref 170), some (.int fr), some (.int goal), some (.long over), none, some (.int f), some (.int left), some (.int (Int32.ofInt (-1))), o8, o9, o10]) (st' := []) (n := 2) (ykc_280 (e := (3, .istore 7, 0)) rfl) rfl rfl ?_
      refine gt_alu (st' := [.int (Int32.ofInt 0)]) (ykc_280 (e := (0, .iconst 0, 0)) rfl) rfl rfl ?_
      refine gt_store (L' := [some (.ref 170), some (.int fr), some (.int goal), some (.long over), none, some (.int f), some (.int left), some (.int (Int32.ofInt (-1))), some (.int (Int32.ofInt 0)), o9, o10]) (st' := []) (n := 2) (ykc_280 (e := (3, .istore 8, 0)) rfl) rfl rfl ?_
      have z00 : (Int32.ofInt 0).toInt = 0 := by decide
      refine xway_w (x := x) hE hm hw hD eR eC r0 r1 c0 c1 f0 f1 hP hR hC ?_ 8 _ _ _ _ (by rw [xim1]; omega) (by rw [xim1]; omega) (by omega) (by omega)
      intro nx2 k2 o92 o102 hn0 hn1
      refine gt_load (v := .int nx2) (n := 2) (ykc_280 (e := (2, .iload 7, 0)) rfl) rfl rfl ?_
      refine gt_store (L' := [some (.ref 170), some (.int fr), some (.int goal), some (.long over), none, some (.int nx2), some (.int left), some (.int nx2), some (.int k2), o92, o102]) (st' := []) (n := 2) (ykc_280 (e := (3, .istore 5, 0)) rfl) rfl rfl ?_
      refine gt_load (v := .ref 170) (n := 1) (ykc_280 (e := (2, .aload_n kF0, 0)) rfl) rfl rfl ?_
      refine gt_load (v := .int nx2) (n := 2) (ykc_280 (e := (2, .iload 5, 0)) rfl) rfl rfl ?_
      refine gt_alu (st' := [.long nx2.toInt64, .ref 170]) (ykc_280 (e := (0, .i2l, 0)) rfl) rfl rfl ?_
      refine gt_cv (n := 1) (as := [.ref 170, .long nx2.toInt64]) (r := []) (ykc_280 (e := (6, .invokevirtual 373, 0)) rfl) rfl hP rfl rfl rfl (xenters (D := D') hP ht (by omega) (by omega)) rfl (fun vv ph1 hv => ?_)
      obtain ⟨t1, e9, h_t1, hP1, u1⟩ := hv; subst e9
      change xGT kK (D' + 1) 280 Q (175, [some (.ref 170), some (.int fr), some (.int goal), some (.long over), none, some (.int nx2), some (.int left), some (.int nx2), some (.int k2), o92, o102], [], ph1, 0, 0)
      obtain ⟨left1, e_left1, h_left1⟩ : ∃ zq : Int32, left + Int32.ofInt (-1) = zq ∧ zq.toInt = left.toInt - 1 := ⟨_, rfl, by rw [ti_add (by rw [xim1]; omega) (by rw [xim1]; omega), xim1]; omega⟩
      refine gt_store (L' := [some (.ref 170), some (.int fr), some (.int goal), some (.long over), none, some (.int nx2), some (.int left1), some (.int nx2), some (.int k2), o92, o102]) (st' := []) (n := 3) (ykc_280 (e := (3, .iinc 6 (-1), 0)) rfl) (by rw [← e_left1]; rfl) rfl ?_
      refine gt_br (pc' := 65) (st' := []) (ykc_280 (e := (4, .goto (-113), 65)) rfl) rfl ?_
      exact ih nx2 left1 t1 _ _ _ _ ph1 hP1 (xent1_E hE u1 rfl rfl rfl g9) ((u1.2.1 170 3 (by decide)).trans hR) ((u1.2.1 170 4 (by decide)).trans hC) u1.1 ((u1.2.1 192 _ (fun q => absurd q.1 (by decide))).trans hx) hn0 hn1 (by omega) (by omega) (by omega) (by omega)

set_option maxRecDepth 6000 in
theorem xNEV : (1000000 : Int32).toInt = 1000000 := by decide
set_option maxRecDepth 6000 in
theorem xlays {E : pm_H → Prop} (hE : xHE xX xgA_G97 xgF_G97 E) {Rn Cn : Nat} (r0 : 3 ≤ Rn) (r1 : Rn ≤ 7) (c0 : 3 ≤ Cn) (c1 : Cn ≤ 7) {hi : Int} (hhi : hi = ((Rn * Cn : Nat) : Int) - 1) : xcon xX kK E 10 280 [.inr (.inr (.inl 0)), .inl (Int.ofNat 0, hi), .inl (Int.ofNat 0, hi), .inr (.inl ((Int.negSucc 9223372036854775807), (Int.ofNat 9223372036854775807)))] [(696323, .inl (Int.ofNat Rn, Int.ofNat Rn)), (696324, .inl (Int.ofNat Cn, Int.ofNat Cn))] 0 (some (.inl ((Int.negSucc 1), (Int.ofNat 48)))) [] := by
  intro D hD m hm h0m vs ph hv hf hP g9
  obtain ⟨D', rfl⟩ : ∃ D', D = D' + 1 + 1 + 1 := ⟨D - 3, by omega⟩
  match vs, hv with
  | [v1, v2, v3, v4], ⟨q1, ⟨fr, e2, f0, f1⟩, ⟨goal, e3, hg0, g1⟩, ⟨over, e4, _, _⟩, _⟩ =>
  have e1 := xaO hP (A := 170) rfl q1
  subst e1 e2 e3 e4
  have f0 : 0 ≤ fr.toInt := f0
  have hg0 : 0 ≤ goal.toInt := hg0
  have hg1 : goal.toInt < ((Rn * Cn : Nat) : Int) := by omega
  have hf1 : fr.toInt < ((Rn * Cn : Nat) : Int) := by omega
  have hN : Rn * Cn ≤ 49 := Nat.mul_le_mul r1 c1
  have hw : ((0 : Nat) : Int) ≤ m := h0m
  have fact : ∀ (k c : Nat) (key : Nat), key = 170 * 4096 + k → k < 4096 → (key, (.inl (Int.ofNat c, Int.ofNat c) : xh)) ∈ [(696323, (.inl (Int.ofNat Rn, Int.ofNat Rn) : xh)), (696324, .inl (Int.ofNat Cn, Int.ofNat Cn))] → ∃ x : Int32, xget ph 170 k = some (.int x) ∧ x.toInt = (c : Int) := fun k c key e hk hm9 => by
    obtain ⟨-, -, v, h1, x, e9, h2, h3⟩ := hf key _ hm9
    subst e9
    have ek : key / 4096 = 170 ∧ key % 4096 = k := by omega
    rw [ek.1, ek.2] at h1
    have h2 : (c : Int) ≤ x.toInt := h2
    have h3 : x.toInt ≤ (c : Int) := h3
    exact ⟨x, h1, by omega⟩
  obtain ⟨R, hR, eR⟩ := fact 3 Rn 696323 (by decide) (by decide) List.mem_cons_self
  obtain ⟨C, hC, eC⟩ := fact 4 Cn 696324 (by decide) (by decide) (List.mem_cons_of_mem _ List.mem_cons_self)
  suffices hs : ∃ v ph', pm_Rd kK false (D' + 1 + 1 + 1) 280 [.ref 170, .int fr, .int goal, .long over] ph (v, ph', 0, 0) ∧ (∃ z : Int32, v = some (.int z) ∧ -2 ≤ z.toInt ∧ z.toInt ≤ 48 ∧ xH xX kK m 0 ph' ∧ E ph') by
    obtain ⟨v, ph', k1, z, e, z0, z1, hP1, g91⟩ := hs
    exact ⟨v, ph', k1, hP1, g91, ⟨_, e, z, rfl, z0, z1⟩, xF0⟩
  refine xRd_mk (nl := 11) rfl rfl ?_
  show xGT kK (D' + 1 + 1) 280 _ (0, [some (.ref 170), some (.int fr), some (.int goal), some (.long over), none, none, none, none, none, none, none], [], ph, 0, 0)
  refine gt_load (v := .ref 170) (n := 1) (ykc_280 (e := (2, .aload_n kF0, 0)) rfl) rfl rfl ?_
  refine gt_load (v := .int fr) (n := 1) (ykc_280 (e := (2, .iload_n kF1, 0)) rfl) rfl rfl ?_
  refine gt_load (v := .int goal) (n := 1) (ykc_280 (e := (2, .iload_n kF2, 0)) rfl) rfl rfl ?_
  refine gt_load (v := .long over) (n := 1) (ykc_280 (e := (2, .lload_n kF3, 0)) rfl) rfl rfl ?_
  refine gt_cv (n := 3) (as := [.ref 170, .int fr, .int goal, .long over]) (r := []) (ykc_280 (e := (6, .invokevirtual 446, 0)) rfl) rfl hP rfl rfl rfl (xlaysSteps hE hm hw (by omega) eR eC r0 r1 c0 c1 hg0 hg1 hP g9 hR hC) rfl (fun vv ph1 hv => ?_)
  obtain ⟨e9, hP1, g91, hR1, hC1, hfar⟩ := hv; subst e9
  change xGT kK (D' + 1 + 1) 280 _ (7, [some (.ref 170), some (.int fr), some (.int goal), some (.long over), none, none, none, none, none, none, none], [], ph1, 0, 0)
  refine gt_load (v := .ref 170) (n := 1) (ykc_280 (e := (2, .aload_n kF0, 0)) rfl) rfl rfl ?_
  refine gt_gfr (A := 172) (ykc_280 (e := (5, .getfield 33, 0)) rfl) rfl hP1 rfl rfl rfl ?_
  refine gt_load (v := .int fr) (n := 1) (ykc_280 (e := (2, .iload_n kF1, 0)) rfl) rfl rfl ?_
  refine gt_bal (A := 172) (ykc_280 (e := (5, .baload, 0)) rfl) hP1 rfl rfl (by omega) (by omega) rfl (fun k1 g_k1 b0_k1 b1_k1 => ?_)
  by_cases hk1 : k1.toInt ≠ 0
  · refine gt_zne_t (ykc_280 (e := (4, .ifCond .ne 24, 37)) rfl) hk1 ?_
    refine gt_push (v := .int ((Int8.ofInt (-2)).toInt32)) (n := 2) (ykc_280 (e := (1, .bipush (-2), 0)) rfl) rfl rfl ?_
    refine gt_ret (ykc_280 (e := (7, .ireturn, 0)) rfl) rfl ?_
    exact ⟨_, rfl, by decide, by decide, hP1, g91⟩
  · refine gt_zne_f (ykc_280 (e := (4, .ifCond .ne 24, 37)) rfl) (by omega) rfl ?_
    refine gt_load (v := .ref 170) (n := 1) (ykc_280 (e := (2, .aload_n kF0, 0)) rfl) rfl rfl ?_
    refine gt_gfr (A := 172) (ykc_280 (e := (5, .getfield 33, 0)) rfl) rfl hP1 rfl rfl rfl ?_
    refine gt_load (v := .int goal) (n := 1) (ykc_280 (e := (2, .iload_n kF2, 0)) rfl) rfl rfl ?_
    refine gt_bal (A := 172) (ykc_280 (e := (5, .baload, 0)) rfl) hP1 rfl rfl (by omega) (by omega) rfl (fun k2 g_k2 b0_k2 b1_k2 => ?_)
    by_cases hk2 : k2.toInt ≠ 0
    · refine gt_zne_t (ykc_280 (e := (4, .ifCond .ne 15, 37)) rfl) hk2 ?_
      refine gt_push (v := .int ((Int8.ofInt (-2)).toInt32)) (n := 2) (ykc_280 (e := (1, .bipush (-2), 0)) rfl) rfl rfl ?_
      refine gt_ret (ykc_280 (e := (7, .ireturn, 0)) rfl) rfl ?_
      exact ⟨_, rfl, by decide, by decide, hP1, g91⟩
    · refine gt_zne_f (ykc_280 (e := (4, .ifCond .ne 15, 37)) rfl) (by omega) rfl ?_
      refine gt_load (v := .ref 170) (n := 1) (ykc_280 (e := (2, .aload_n kF0, 0)) rfl) rfl rfl ?_
      refine gt_gfr (A := 192) (ykc_280 (e := (5, .getfield 95, 0)) rfl) rfl hP1 rfl rfl rfl ?_
      refine gt_load (v := .int fr) (n := 1) (ykc_280 (e := (2, .iload_n kF1, 0)) rfl) rfl rfl ?_
      refine gt_ial (A := 192) (ykc_280 (e := (5, .iaload, 0)) rfl) hP1 rfl rfl (by omega) (by omega) rfl (fun x g_x b_x => ?_)
      refine gt_push (v := .int (1000000 : Int32)) (n := 3) (ykc_280 (e := (1, .ldc_w 432, 0)) rfl) rfl rfl ?_
      have hx9 := xfar_get hN hfar (show fr.toInt.toNat < Rn * Cn by omega) g_x
      by_cases hxN : 1000000 ≤ x.toInt
      · refine gt_ilt_f (ykc_280 (e := (4, .if_icmp .lt 6, 40)) rfl) (by rw [xNEV]; omega) rfl ?_
        refine gt_push (v := .int ((Int8.ofInt (-2)).toInt32)) (n := 2) (ykc_280 (e := (1, .bipush (-2), 0)) rfl) rfl rfl ?_
        refine gt_ret (ykc_280 (e := (7, .ireturn, 0)) rfl) rfl ?_
        exact ⟨_, rfl, by decide, by decide, hP1, g91⟩
      · refine gt_ilt_t (ykc_280 (e := (4, .if_icmp .lt 6, 40)) rfl) (by rw [xNEV]; omega) ?_
        refine gt_load (v := .ref 170) (n := 1) (ykc_280 (e := (2, .aload_n kF0, 0)) rfl) rfl rfl ?_
        refine gt_alu (st' := [.int (Int32.ofInt 0), .ref 170]) (ykc_280 (e := (0, .iconst 0, 0)) rfl) rfl rfl ?_
        refine gt_pf (y := Int32.ofInt 0) (ykc_280 (e := (5, .putfield 15, 0)) rfl) rfl hP1 rfl rfl (by decide) (by decide) rfl (fun ph302 hP302 u302 => ?_)
        have f302_3 : xget ph302 170 3 = some (.int R) := (u302.2.1 170 3 (by decide)).trans hR1
        have f302_4 : xget ph302 170 4 = some (.int C) := (u302.2.1 170 4 (by decide)).trans hC1
        refine gt_load (v := .int fr) (n := 1) (ykc_280 (e := (2, .iload_n kF1, 0)) rfl) rfl rfl ?_
        refine gt_store (L' := [some (.ref 170), some (.int fr), some (.int goal), some (.long over), none, some (.int fr), none, none, none, none, none]) (st' := []) (n := 2) (ykc_280 (e := (3, .istore 5, 0)) rfl) rfl rfl ?_
        refine gt_load (v := .ref 170) (n := 1) (ykc_280 (e := (2, .aload_n kF0, 0)) rfl) rfl rfl ?_
        refine gt_load (v := .int fr) (n := 2) (ykc_280 (e := (2, .iload 5, 0)) rfl) rfl rfl ?_
        refine gt_alu (st' := [.long fr.toInt64, .ref 170]) (ykc_280 (e := (0, .i2l, 0)) rfl) rfl rfl ?_
        refine gt_cv (n := 1) (as := [.ref 170, .long fr.toInt64]) (r := []) (ykc_280 (e := (6, .invokevirtual 373, 0)) rfl) rfl hP302 rfl rfl rfl (xenters (D := D' + 1) hP302 u302.1 (by decide) (by decide)) rfl (fun vv ph303 hv => ?_)
        obtain ⟨t1, e9, h_t1, hP303, u303⟩ := hv; subst e9
        have hx303 : xget ph303 192 fr.toInt.toNat = some (.int x) := (u303.2.1 192 _ (fun q => absurd q.1 (by decide))).trans ((u302.2.1 192 _ (fun q => absurd q.1 (by decide))).trans g_x)
        obtain ⟨l9, hA9, -⟩ := xA_at (A := 192) hP303 rfl rfl
        have hA303 : ∃ l, pm_at ph303 192 = some (.inl (0, .inl l)) := ⟨l9, hA9⟩
        change xGT kK (D' + 1 + 1) 280 _ (55, [some (.ref 170), some (.int fr), some (.int goal), some (.long over), none, some (.int fr), none, none, none, none, none], [], ph303, 0, 0)
        refine gt_load (v := .ref 170) (n := 1) (ykc_280 (e := (2, .aload_n kF0, 0)) rfl) rfl rfl ?_
        refine gt_gfr (A := 192) (ykc_280 (e := (5, .getfield 95, 0)) rfl) rfl hP303 rfl rfl rfl ?_
        refine gt_load (v := .int fr) (n := 1) (ykc_280 (e := (2, .iload_n kF1, 0)) rfl) rfl rfl ?_
        refine gt_ialk (y := x) (ykc_280 (e := (5, .iaload, 0)) rfl) hx303 hA303 (by omega) rfl ?_
        refine gt_alu (st' := [.int (Int32.ofInt 1), .int x]) (ykc_280 (e := (0, .iconst 1, 0)) rfl) rfl rfl ?_
        obtain ⟨left, e_left, h_left⟩ : ∃ zq : Int32, x - (Int32.ofInt 1) = zq ∧ zq.toInt = x.toInt - 1 := ⟨_, rfl, by rw [ti_sub (by rw [xi1]; omega) (by rw [xi1]; omega), xi1]⟩
        refine gt_alu (st' := [.int left]) (ykc_280 (e := (0, .isub, 0)) rfl) (by rw [← e_left]; exact rfl) rfl ?_
        refine gt_store (L' := [some (.ref 170), some (.int fr), some (.int goal), some (.long over), none, some (.int fr), some (.int left), none, none, none, none]) (st' := []) (n := 2) (ykc_280 (e := (3, .istore 6, 0)) rfl) rfl rfl ?_
        have z00 : (Int32.ofInt 0).toInt = 0 := by decide
        exact xway_l hE hm hw (by omega) eR eC r0 r1 c0 c1 (x := x) f0 (by omega) (fun ph' h1 h2 => ⟨x, rfl, by omega, by omega, h1, h2⟩) (left.toInt.toNat + 1) fr left t1 _ _ _ _ ph303 hP303 (xent1_E hE u303 rfl rfl rfl (xu1_E hE u302 rfl rfl rfl g91)) ((u303.2.1 170 3 (by decide)).trans ((u302.2.1 170 3 (by decide)).trans hR1)) ((u303.2.1 170 4 (by decide)).trans ((u302.2.1 170 4 (by decide)).trans hC1)) u303.1 hx303 (by omega) (by omega) (by omega) (by omega) (by omega) (by omega)

set_option maxRecDepth 6000 in
theorem xlays_v0 {E : pm_H → Prop} (hE : xHE xX xgA_G97 xgF_G97 E) : xcon xX kK E 10 280 [.inr (.inr (.inl 0)), .inl ((Int.ofNat 0), (Int.ofNat 8)), .inl ((Int.ofNat 0), (Int.ofNat 8)), .inr (.inl ((Int.negSucc 9223372036854775807), (Int.ofNat 9223372036854775807)))] [(696323, .inl ((Int.ofNat 3), (Int.ofNat 3))), (696324, .inl ((Int.ofNat 3), (Int.ofNat 3)))] 0 (some (.inl ((Int.negSucc 1), (Int.ofNat 48)))) [] := xlays hE (Rn := 3) (Cn := 3) (by decide) (by decide) (by decide) (by decide) rfl
set_option maxRecDepth 6000 in
theorem xlays_v1 {E : pm_H → Prop} (hE : xHE xX xgA_G97 xgF_G97 E) : xcon xX kK E 10 280 [.inr (.inr (.inl 0)), .inl ((Int.ofNat 0), (Int.ofNat 11)), .inl ((Int.ofNat 0), (Int.ofNat 11)), .inr (.inl ((Int.negSucc 9223372036854775807), (Int.ofNat 9223372036854775807)))] [(696323, .inl ((Int.ofNat 3), (Int.ofNat 3))), (696324, .inl ((Int.ofNat 4), (Int.ofNat 4)))] 0 (some (.inl ((Int.negSucc 1), (Int.ofNat 48)))) [] := xlays hE (Rn := 3) (Cn := 4) (by decide) (by decide) (by decide) (by decide) rfl
set_option maxRecDepth 6000 in
theorem xlays_v2 {E : pm_H → Prop} (hE : xHE xX xgA_G97 xgF_G97 E) : xcon xX kK E 10 280 [.inr (.inr (.inl 0)), .inl ((Int.ofNat 0), (Int.ofNat 14)), .inl ((Int.ofNat 0), (Int.ofNat 14)), .inr (.inl ((Int.negSucc 9223372036854775807), (Int.ofNat 9223372036854775807)))] [(696323, .inl ((Int.ofNat 3), (Int.ofNat 3))), (696324, .inl ((Int.ofNat 5), (Int.ofNat 5)))] 0 (some (.inl ((Int.negSucc 1), (Int.ofNat 48)))) [] := xlays hE (Rn := 3) (Cn := 5) (by decide) (by decide) (by decide) (by decide) rfl
set_option maxRecDepth 6000 in
theorem xlays_v3 {E : pm_H → Prop} (hE : xHE xX xgA_G97 xgF_G97 E) : xcon xX kK E 10 280 [.inr (.inr (.inl 0)), .inl ((Int.ofNat 0), (Int.ofNat 17)), .inl ((Int.ofNat 0), (Int.ofNat 17)), .inr (.inl ((Int.negSucc 9223372036854775807), (Int.ofNat 9223372036854775807)))] [(696323, .inl ((Int.ofNat 3), (Int.ofNat 3))), (696324, .inl ((Int.ofNat 6), (Int.ofNat 6)))] 0 (some (.inl ((Int.negSucc 1), (Int.ofNat 48)))) [] := xlays hE (Rn := 3) (Cn := 6) (by decide) (by decide) (by decide) (by decide) rfl
set_option maxRecDepth 6000 in
theorem xlays_v4 {E : pm_H → Prop} (hE : xHE xX xgA_G97 xgF_G97 E) : xcon xX kK E 10 280 [.inr (.inr (.inl 0)), .inl ((Int.ofNat 0), (Int.ofNat 20)), .inl ((Int.ofNat 0), (Int.ofNat 20)), .inr (.inl ((Int.negSucc 9223372036854775807), (Int.ofNat 9223372036854775807)))] [(696323, .inl ((Int.ofNat 3), (Int.ofNat 3))), (696324, .inl ((Int.ofNat 7), (Int.ofNat 7)))] 0 (some (.inl ((Int.negSucc 1), (Int.ofNat 48)))) [] := xlays hE (Rn := 3) (Cn := 7) (by decide) (by decide) (by decide) (by decide) rfl
set_option maxRecDepth 6000 in
theorem xlays_v5 {E : pm_H → Prop} (hE : xHE xX xgA_G97 xgF_G97 E) : xcon xX kK E 10 280 [.inr (.inr (.inl 0)), .inl ((Int.ofNat 0), (Int.ofNat 11)), .inl ((Int.ofNat 0), (Int.ofNat 11)), .inr (.inl ((Int.negSucc 9223372036854775807), (Int.ofNat 9223372036854775807)))] [(696323, .inl ((Int.ofNat 4), (Int.ofNat 4))), (696324, .inl ((Int.ofNat 3), (Int.ofNat 3)))] 0 (some (.inl ((Int.negSucc 1), (Int.ofNat 48)))) [] := xlays hE (Rn := 4) (Cn := 3) (by decide) (by decide) (by decide) (by decide) rfl
set_option maxRecDepth 6000 in
theorem xlays_v6 {E : pm_H → Prop} (hE : xHE xX xgA_G97 xgF_G97 E) : xcon xX kK E 10 280 [.inr (.inr (.inl 0)), .inl ((Int.ofNat 0), (Int.ofNat 15)), .inl ((Int.ofNat 0), (Int.ofNat 15)), .inr (.inl ((Int.negSucc 9223372036854775807), (Int.ofNat 9223372036854775807)))] [(696323, .inl ((Int.ofNat 4), (Int.ofNat 4))), (696324, .inl ((Int.ofNat 4), (Int.ofNat 4)))] 0 (some (.inl ((Int.negSucc 1), (Int.ofNat 48)))) [] := xlays hE (Rn := 4) (Cn := 4) (by decide) (by decide) (by decide) (by decide) rfl
set_option maxRecDepth 6000 in
theorem xlays_v7 {E : pm_H → Prop} (hE : xHE xX xgA_G97 xgF_G97 E) : xcon xX kK E 10 280 [.inr (.inr (.inl 0)), .inl ((Int.ofNat 0), (Int.ofNat 19)), .inl ((Int.ofNat 0), (Int.ofNat 19)), .inr (.inl ((Int.negSucc 9223372036854775807), (Int.ofNat 9223372036854775807)))] [(696323, .inl ((Int.ofNat 4), (Int.ofNat 4))), (696324, .inl ((Int.ofNat 5), (Int.ofNat 5)))] 0 (some (.inl ((Int.negSucc 1), (Int.ofNat 48)))) [] := xlays hE (Rn := 4) (Cn := 5) (by decide) (by decide) (by decide) (by decide) rfl
set_option maxRecDepth 6000 in
theorem xlays_v8 {E : pm_H → Prop} (hE : xHE xX xgA_G97 xgF_G97 E) : xcon xX kK E 10 280 [.inr (.inr (.inl 0)), .inl ((Int.ofNat 0), (Int.ofNat 23)), .inl ((Int.ofNat 0), (Int.ofNat 23)), .inr (.inl ((Int.negSucc 9223372036854775807), (Int.ofNat 9223372036854775807)))] [(696323, .inl ((Int.ofNat 4), (Int.ofNat 4))), (696324, .inl ((Int.ofNat 6), (Int.ofNat 6)))] 0 (some (.inl ((Int.negSucc 1), (Int.ofNat 48)))) [] := xlays hE (Rn := 4) (Cn := 6) (by decide) (by decide) (by decide) (by decide) rfl
set_option maxRecDepth 6000 in
theorem xlays_v9 {E : pm_H → Prop} (hE : xHE xX xgA_G97 xgF_G97 E) : xcon xX kK E 10 280 [.inr (.inr (.inl 0)), .inl ((Int.ofNat 0), (Int.ofNat 27)), .inl ((Int.ofNat 0), (Int.ofNat 27)), .inr (.inl ((Int.negSucc 9223372036854775807), (Int.ofNat 9223372036854775807)))] [(696323, .inl ((Int.ofNat 4), (Int.ofNat 4))), (696324, .inl ((Int.ofNat 7), (Int.ofNat 7)))] 0 (some (.inl ((Int.negSucc 1), (Int.ofNat 48)))) [] := xlays hE (Rn := 4) (Cn := 7) (by decide) (by decide) (by decide) (by decide) rfl
set_option maxRecDepth 6000 in
theorem xlays_v10 {E : pm_H → Prop} (hE : xHE xX xgA_G97 xgF_G97 E) : xcon xX kK E 10 280 [.inr (.inr (.inl 0)), .inl ((Int.ofNat 0), (Int.ofNat 14)), .inl ((Int.ofNat 0), (Int.ofNat 14)), .inr (.inl ((Int.negSucc 9223372036854775807), (Int.ofNat 9223372036854775807)))] [(696323, .inl ((Int.ofNat 5), (Int.ofNat 5))), (696324, .inl ((Int.ofNat 3), (Int.ofNat 3)))] 0 (some (.inl ((Int.negSucc 1), (Int.ofNat 48)))) [] := xlays hE (Rn := 5) (Cn := 3) (by decide) (by decide) (by decide) (by decide) rfl
set_option maxRecDepth 6000 in
theorem xlays_v11 {E : pm_H → Prop} (hE : xHE xX xgA_G97 xgF_G97 E) : xcon xX kK E 10 280 [.inr (.inr (.inl 0)), .inl ((Int.ofNat 0), (Int.ofNat 19)), .inl ((Int.ofNat 0), (Int.ofNat 19)), .inr (.inl ((Int.negSucc 9223372036854775807), (Int.ofNat 9223372036854775807)))] [(696323, .inl ((Int.ofNat 5), (Int.ofNat 5))), (696324, .inl ((Int.ofNat 4), (Int.ofNat 4)))] 0 (some (.inl ((Int.negSucc 1), (Int.ofNat 48)))) [] := xlays hE (Rn := 5) (Cn := 4) (by decide) (by decide) (by decide) (by decide) rfl
set_option maxRecDepth 6000 in
theorem xlays_v12 {E : pm_H → Prop} (hE : xHE xX xgA_G97 xgF_G97 E) : xcon xX kK E 10 280 [.inr (.inr (.inl 0)), .inl ((Int.ofNat 0), (Int.ofNat 24)), .inl ((Int.ofNat 0), (Int.ofNat 24)), .inr (.inl ((Int.negSucc 9223372036854775807), (Int.ofNat 9223372036854775807)))] [(696323, .inl ((Int.ofNat 5), (Int.ofNat 5))), (696324, .inl ((Int.ofNat 5), (Int.ofNat 5)))] 0 (some (.inl ((Int.negSucc 1), (Int.ofNat 48)))) [] := xlays hE (Rn := 5) (Cn := 5) (by decide) (by decide) (by decide) (by decide) rfl
set_option maxRecDepth 6000 in
theorem xlays_v13 {E : pm_H → Prop} (hE : xHE xX xgA_G97 xgF_G97 E) : xcon xX kK E 10 280 [.inr (.inr (.inl 0)), .inl ((Int.ofNat 0), (Int.ofNat 29)), .inl ((Int.ofNat 0), (Int.ofNat 29)), .inr (.inl ((Int.negSucc 9223372036854775807), (Int.ofNat 9223372036854775807)))] [(696323, .inl ((Int.ofNat 5), (Int.ofNat 5))), (696324, .inl ((Int.ofNat 6), (Int.ofNat 6)))] 0 (some (.inl ((Int.negSucc 1), (Int.ofNat 48)))) [] := xlays hE (Rn := 5) (Cn := 6) (by decide) (by decide) (by decide) (by decide) rfl
set_option maxRecDepth 6000 in
theorem xlays_v14 {E : pm_H → Prop} (hE : xHE xX xgA_G97 xgF_G97 E) : xcon xX kK E 10 280 [.inr (.inr (.inl 0)), .inl ((Int.ofNat 0), (Int.ofNat 34)), .inl ((Int.ofNat 0), (Int.ofNat 34)), .inr (.inl ((Int.negSucc 9223372036854775807), (Int.ofNat 9223372036854775807)))] [(696323, .inl ((Int.ofNat 5), (Int.ofNat 5))), (696324, .inl ((Int.ofNat 7), (Int.ofNat 7)))] 0 (some (.inl ((Int.negSucc 1), (Int.ofNat 48)))) [] := xlays hE (Rn := 5) (Cn := 7) (by decide) (by decide) (by decide) (by decide) rfl
set_option maxRecDepth 6000 in
theorem xlays_v15 {E : pm_H → Prop} (hE : xHE xX xgA_G97 xgF_G97 E) : xcon xX kK E 10 280 [.inr (.inr (.inl 0)), .inl ((Int.ofNat 0), (Int.ofNat 17)), .inl ((Int.ofNat 0), (Int.ofNat 17)), .inr (.inl ((Int.negSucc 9223372036854775807), (Int.ofNat 9223372036854775807)))] [(696323, .inl ((Int.ofNat 6), (Int.ofNat 6))), (696324, .inl ((Int.ofNat 3), (Int.ofNat 3)))] 0 (some (.inl ((Int.negSucc 1), (Int.ofNat 48)))) [] := xlays hE (Rn := 6) (Cn := 3) (by decide) (by decide) (by decide) (by decide) rfl
set_option maxRecDepth 6000 in
theorem xlays_v16 {E : pm_H → Prop} (hE : xHE xX xgA_G97 xgF_G97 E) : xcon xX kK E 10 280 [.inr (.inr (.inl 0)), .inl ((Int.ofNat 0), (Int.ofNat 23)), .inl ((Int.ofNat 0), (Int.ofNat 23)), .inr (.inl ((Int.negSucc 9223372036854775807), (Int.ofNat 9223372036854775807)))] [(696323, .inl ((Int.ofNat 6), (Int.ofNat 6))), (696324, .inl ((Int.ofNat 4), (Int.ofNat 4)))] 0 (some (.inl ((Int.negSucc 1), (Int.ofNat 48)))) [] := xlays hE (Rn := 6) (Cn := 4) (by decide) (by decide) (by decide) (by decide) rfl
set_option maxRecDepth 6000 in
theorem xlays_v17 {E : pm_H → Prop} (hE : xHE xX xgA_G97 xgF_G97 E) : xcon xX kK E 10 280 [.inr (.inr (.inl 0)), .inl ((Int.ofNat 0), (Int.ofNat 29)), .inl ((Int.ofNat 0), (Int.ofNat 29)), .inr (.inl ((Int.negSucc 9223372036854775807), (Int.ofNat 9223372036854775807)))] [(696323, .inl ((Int.ofNat 6), (Int.ofNat 6))), (696324, .inl ((Int.ofNat 5), (Int.ofNat 5)))] 0 (some (.inl ((Int.negSucc 1), (Int.ofNat 48)))) [] := xlays hE (Rn := 6) (Cn := 5) (by decide) (by decide) (by decide) (by decide) rfl
set_option maxRecDepth 6000 in
theorem xlays_v18 {E : pm_H → Prop} (hE : xHE xX xgA_G97 xgF_G97 E) : xcon xX kK E 10 280 [.inr (.inr (.inl 0)), .inl ((Int.ofNat 0), (Int.ofNat 35)), .inl ((Int.ofNat 0), (Int.ofNat 35)), .inr (.inl ((Int.negSucc 9223372036854775807), (Int.ofNat 9223372036854775807)))] [(696323, .inl ((Int.ofNat 6), (Int.ofNat 6))), (696324, .inl ((Int.ofNat 6), (Int.ofNat 6)))] 0 (some (.inl ((Int.negSucc 1), (Int.ofNat 48)))) [] := xlays hE (Rn := 6) (Cn := 6) (by decide) (by decide) (by decide) (by decide) rfl
set_option maxRecDepth 6000 in
theorem xlays_v19 {E : pm_H → Prop} (hE : xHE xX xgA_G97 xgF_G97 E) : xcon xX kK E 10 280 [.inr (.inr (.inl 0)), .inl ((Int.ofNat 0), (Int.ofNat 41)), .inl ((Int.ofNat 0), (Int.ofNat 41)), .inr (.inl ((Int.negSucc 9223372036854775807), (Int.ofNat 9223372036854775807)))] [(696323, .inl ((Int.ofNat 6), (Int.ofNat 6))), (696324, .inl ((Int.ofNat 7), (Int.ofNat 7)))] 0 (some (.inl ((Int.negSucc 1), (Int.ofNat 48)))) [] := xlays hE (Rn := 6) (Cn := 7) (by decide) (by decide) (by decide) (by decide) rfl
set_option maxRecDepth 6000 in
theorem xlays_v20 {E : pm_H → Prop} (hE : xHE xX xgA_G97 xgF_G97 E) : xcon xX kK E 10 280 [.inr (.inr (.inl 0)), .inl ((Int.ofNat 0), (Int.ofNat 20)), .inl ((Int.ofNat 0), (Int.ofNat 20)), .inr (.inl ((Int.negSucc 9223372036854775807), (Int.ofNat 9223372036854775807)))] [(696323, .inl ((Int.ofNat 7), (Int.ofNat 7))), (696324, .inl ((Int.ofNat 3), (Int.ofNat 3)))] 0 (some (.inl ((Int.negSucc 1), (Int.ofNat 48)))) [] := xlays hE (Rn := 7) (Cn := 3) (by decide) (by decide) (by decide) (by decide) rfl
set_option maxRecDepth 6000 in
theorem xlays_v21 {E : pm_H → Prop} (hE : xHE xX xgA_G97 xgF_G97 E) : xcon xX kK E 10 280 [.inr (.inr (.inl 0)), .inl ((Int.ofNat 0), (Int.ofNat 27)), .inl ((Int.ofNat 0), (Int.ofNat 27)), .inr (.inl ((Int.negSucc 9223372036854775807), (Int.ofNat 9223372036854775807)))] [(696323, .inl ((Int.ofNat 7), (Int.ofNat 7))), (696324, .inl ((Int.ofNat 4), (Int.ofNat 4)))] 0 (some (.inl ((Int.negSucc 1), (Int.ofNat 48)))) [] := xlays hE (Rn := 7) (Cn := 4) (by decide) (by decide) (by decide) (by decide) rfl
set_option maxRecDepth 6000 in
theorem xlays_v22 {E : pm_H → Prop} (hE : xHE xX xgA_G97 xgF_G97 E) : xcon xX kK E 10 280 [.inr (.inr (.inl 0)), .inl ((Int.ofNat 0), (Int.ofNat 34)), .inl ((Int.ofNat 0), (Int.ofNat 34)), .inr (.inl ((Int.negSucc 9223372036854775807), (Int.ofNat 9223372036854775807)))] [(696323, .inl ((Int.ofNat 7), (Int.ofNat 7))), (696324, .inl ((Int.ofNat 5), (Int.ofNat 5)))] 0 (some (.inl ((Int.negSucc 1), (Int.ofNat 48)))) [] := xlays hE (Rn := 7) (Cn := 5) (by decide) (by decide) (by decide) (by decide) rfl
set_option maxRecDepth 6000 in
theorem xlays_v23 {E : pm_H → Prop} (hE : xHE xX xgA_G97 xgF_G97 E) : xcon xX kK E 10 280 [.inr (.inr (.inl 0)), .inl ((Int.ofNat 0), (Int.ofNat 41)), .inl ((Int.ofNat 0), (Int.ofNat 41)), .inr (.inl ((Int.negSucc 9223372036854775807), (Int.ofNat 9223372036854775807)))] [(696323, .inl ((Int.ofNat 7), (Int.ofNat 7))), (696324, .inl ((Int.ofNat 6), (Int.ofNat 6)))] 0 (some (.inl ((Int.negSucc 1), (Int.ofNat 48)))) [] := xlays hE (Rn := 7) (Cn := 6) (by decide) (by decide) (by decide) (by decide) rfl
set_option maxRecDepth 6000 in
theorem xlays_v24 {E : pm_H → Prop} (hE : xHE xX xgA_G97 xgF_G97 E) : xcon xX kK E 10 280 [.inr (.inr (.inl 0)), .inl ((Int.ofNat 0), (Int.ofNat 48)), .inl ((Int.ofNat 0), (Int.ofNat 48)), .inr (.inl ((Int.negSucc 9223372036854775807), (Int.ofNat 9223372036854775807)))] [(696323, .inl ((Int.ofNat 7), (Int.ofNat 7))), (696324, .inl ((Int.ofNat 7), (Int.ofNat 7)))] 0 (some (.inl ((Int.negSucc 1), (Int.ofNat 48)))) [] := xlays hE (Rn := 7) (Cn := 7) (by decide) (by decide) (by decide) (by decide) rfl
