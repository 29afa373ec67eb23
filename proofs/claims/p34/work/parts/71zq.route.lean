/-! ways: the search over a queue and the rounds over all fields find the same number (by hand) -/
/-- how many below n -/
def zKt (p : Nat → Bool) : Nat → Nat
  | 0 => 0
  | n + 1 => zKt p n + (bif p n then 1 else 0)
theorem zKt_le {p : Nat → Bool} : ∀ n, zKt p n ≤ n := by
  intro n
  induction n with
  | zero => exact Nat.le_refl _
  | succ n ih =>
    show zKt p n + (bif p n then 1 else 0) ≤ n + 1
    cases p n with
    | true => rw [cond_true]; omega
    | false => rw [cond_false]; omega
theorem zKt_lt {p : Nat → Bool} {x : Nat} (h : p x = false) : ∀ n, x < n → zKt p n < n := by
  intro n
  induction n with
  | zero => intro q; exact absurd q (Nat.not_lt_zero x)
  | succ n ih =>
    intro q
    show zKt p n + (bif p n then 1 else 0) < n + 1
    by_cases e : x = n
    · subst e
      have := @zKt_le p x
      rw [h, cond_false]
      omega
    · have := ih (by omega)
      cases p n with
      | true => rw [cond_true]; omega
      | false => rw [cond_false]; omega
theorem zKt_cg {p r : Nat → Bool} : ∀ n, (∀ i, i < n → p i = r i) → zKt p n = zKt r n := by
  intro n
  induction n with
  | zero => intro _; rfl
  | succ n ih =>
    intro h
    show zKt p n + (bif p n then 1 else 0) = zKt r n + (bif r n then 1 else 0)
    rw [ih (fun i hi => h i (by omega)), h n (by omega)]
theorem zKt_u {p r : Nat → Bool} {x : Nat} (h : p x = false) (h1 : r x = true) (h2 : ∀ i, i ≠ x → r i = p i) : ∀ n, x < n → zKt r n = zKt p n + 1 := by
  intro n
  induction n with
  | zero => intro q; exact absurd q (Nat.not_lt_zero x)
  | succ n ih =>
    intro q
    show zKt r n + (bif r n then 1 else 0) = zKt p n + (bif p n then 1 else 0) + 1
    by_cases e : x = n
    · subst e
      rw [zKt_cg x (fun i hi => h2 i (by omega)), h, h1]
      rfl
    · rw [ih (by omega), h2 n (fun q => e q.symm)]
      omega
theorem zKt_0 : ∀ n, zKt (fun _ => false) n = 0 := by
  intro n
  induction n with
  | zero => rfl
  | succ n ih => exact ih
/-- a step from f to g -/
def zEdg (R C f g : Nat) : Prop := ∃ w, w < 8 ∧ zin R C f w = true ∧ zto C f w = g
theorem zEdg_lt {R C f g : Nat} (h : zEdg R C f g) : g < R * C := by
  obtain ⟨w, -, h1, rfl⟩ := h
  exact zto_lt h1
theorem zEdg_s {R C f g : Nat} (hC : 0 < C) (hf : f < R * C) (h : zEdg R C f g) : zEdg R C g f := by
  obtain ⟨w, hw, h1, h2⟩ := h
  have h3 := of_decide_eq_true h1
  obtain ⟨a, ha⟩ : ∃ a, f / C = a := ⟨_, rfl⟩
  obtain ⟨b, hb⟩ : ∃ b, f % C = b := ⟨_, rfl⟩
  have hbC : b < C := by rw [← hb]; exact Nat.mod_lt _ hC
  have hfe : f = C * a + b := by rw [← ha, ← hb]; exact (Nat.div_add_mod f C).symm
  have haR : a < R := by rw [← ha]; exact (Nat.div_lt_iff_lt_mul hC).mpr hf
  rw [ha, hb] at h3
  unfold zto at h2
  rw [ha, hb] at h2
  obtain ⟨x, hx⟩ : ∃ x : Nat, (a : Int) + zdn w = x := ⟨((a : Int) + zdn w).toNat, by omega⟩
  obtain ⟨y, hy⟩ : ∃ y : Nat, (b : Int) + zrg w = y := ⟨((b : Int) + zrg w).toNat, by omega⟩
  rw [hx, hy, Int.toNat_natCast, Int.toNat_natCast] at h2
  have hyC : y < C := by omega
  have g1 : g / C = x := by rw [← h2, Nat.mul_add_div hC, Nat.div_eq_of_lt hyC, Nat.add_zero]
  have g2 : g % C = y := by rw [← h2, Nat.mul_add_mod, Nat.mod_eq_of_lt hyC]
  have key : ∀ w, w < 8 → ∃ u, u < 8 ∧ zdn u = - zdn w ∧ zrg u = - zrg w := by
    intro w hw
    rcases (show w = 0 ∨ w = 1 ∨ w = 2 ∨ w = 3 ∨ w = 4 ∨ w = 5 ∨ w = 6 ∨ w = 7 by omega) with e | e | e | e | e | e | e | e <;> subst e
    · exact ⟨4, by decide, by decide, by decide⟩
    · exact ⟨5, by decide, by decide, by decide⟩
    · exact ⟨6, by decide, by decide, by decide⟩
    · exact ⟨7, by decide, by decide, by decide⟩
    · exact ⟨0, by decide, by decide, by decide⟩
    · exact ⟨1, by decide, by decide, by decide⟩
    · exact ⟨2, by decide, by decide, by decide⟩
    · exact ⟨3, by decide, by decide, by decide⟩
  obtain ⟨u, hu, e1, e2⟩ := key w hw
  have k1 : (x : Int) + zdn u = a := by omega
  have k2 : (y : Int) + zrg u = b := by omega
  refine ⟨u, hu, decide_eq_true ?_, ?_⟩
  · rw [g1, g2, k1, k2]
    omega
  · unfold zto
    rw [g1, g2, k1, k2, Int.toNat_natCast, Int.toNat_natCast, hfe]
/-- within k steps from f to gl; all trodden but f and gl are in ov -/
def zDk (R C gl : Nat) (ov : Nat → Prop) : Nat → Nat → Prop
  | 0, f => f = gl
  | k + 1, f => zDk R C gl ov k f ∨ ∃ g, zEdg R C f g ∧ (g = gl ∨ ov g) ∧ zDk R C gl ov k g
theorem zDk_le {R C gl f k j : Nat} {ov : Nat → Prop} (h : zDk R C gl ov k f) (hk : k ≤ j) : zDk R C gl ov j f := by
  induction j with
  | zero =>
    obtain rfl : k = 0 := by omega
    exact h
  | succ j ih =>
    by_cases e : k = j + 1
    · subst e; exact h
    · exact Or.inl (ih (by omega))
/-- the queue: what holds of it -/
def zBf (R C gl fr : Nat) (rk al : Nat → Bool) (aw qu : Nat → Nat) (hd sz : Nat) : Prop := (sz = zKt (fun f => decide (aw f ≠ 1000)) (R * C)) ∧ (∀ i, i < sz → qu i < R * C ∧ aw (qu i) ≤ i ∧ rk (qu i) = false) ∧ (∀ f, f < R * C → aw f ≠ 1000 → ∃ i, i < sz ∧ qu i = f) ∧ (∀ i j, i ≤ j → j < sz → aw (qu i) ≤ aw (qu j)) ∧ (hd < sz → ∀ j, j < sz → aw (qu j) ≤ aw (qu hd) + 1) ∧ (∀ f, f < R * C → aw f ≠ 1000 → (aw fr ≠ 1000 ∧ aw fr < aw f) ∨ zDk R C gl (fun g => al g = true ∧ rk g = false) (aw f) f) ∧ (∀ i, i < hd → i < sz → ∀ w, w < 8 → ∀ g : Nat, zbk R C rk (qu i) w = g → (g = fr ∨ al g = true) → aw g ≠ 1000 ∧ aw g ≤ aw (qu i) + 1) ∧ (∀ f, f < R * C → aw f ≠ 1000 → f = gl ∨ f = fr ∨ al f = true) ∧ (aw gl = 0) ∧ (∀ f, f < R * C → aw f ≠ 1000 → aw f < sz)
theorem zBf.i1 {R C gl fr : Nat} {rk al : Nat → Bool} {aw qu : Nat → Nat} {hd sz : Nat} (h : zBf R C gl fr rk al aw qu hd sz) : sz = zKt (fun f => decide (aw f ≠ 1000)) (R * C) := h.1
theorem zBf.i2 {R C gl fr : Nat} {rk al : Nat → Bool} {aw qu : Nat → Nat} {hd sz : Nat} (h : zBf R C gl fr rk al aw qu hd sz) : ∀ i, i < sz → qu i < R * C ∧ aw (qu i) ≤ i ∧ rk (qu i) = false := h.2.1
theorem zBf.i3 {R C gl fr : Nat} {rk al : Nat → Bool} {aw qu : Nat → Nat} {hd sz : Nat} (h : zBf R C gl fr rk al aw qu hd sz) : ∀ f, f < R * C → aw f ≠ 1000 → ∃ i, i < sz ∧ qu i = f := h.2.2.1
theorem zBf.i4 {R C gl fr : Nat} {rk al : Nat → Bool} {aw qu : Nat → Nat} {hd sz : Nat} (h : zBf R C gl fr rk al aw qu hd sz) : ∀ i j, i ≤ j → j < sz → aw (qu i) ≤ aw (qu j) := h.2.2.2.1
theorem zBf.i5 {R C gl fr : Nat} {rk al : Nat → Bool} {aw qu : Nat → Nat} {hd sz : Nat} (h : zBf R C gl fr rk al aw qu hd sz) : hd < sz → ∀ j, j < sz → aw (qu j) ≤ aw (qu hd) + 1 := h.2.2.2.2.1
theorem zBf.i6 {R C gl fr : Nat} {rk al : Nat → Bool} {aw qu : Nat → Nat} {hd sz : Nat} (h : zBf R C gl fr rk al aw qu hd sz) : ∀ f, f < R * C → aw f ≠ 1000 → (aw fr ≠ 1000 ∧ aw fr < aw f) ∨ zDk R C gl (fun g => al g = true ∧ rk g = false) (aw f) f := h.2.2.2.2.2.1
theorem zBf.i7 {R C gl fr : Nat} {rk al : Nat → Bool} {aw qu : Nat → Nat} {hd sz : Nat} (h : zBf R C gl fr rk al aw qu hd sz) : ∀ i, i < hd → i < sz → ∀ w, w < 8 → ∀ g : Nat, zbk R C rk (qu i) w = g → (g = fr ∨ al g = true) → aw g ≠ 1000 ∧ aw g ≤ aw (qu i) + 1 := h.2.2.2.2.2.2.1
theorem zBf.i8 {R C gl fr : Nat} {rk al : Nat → Bool} {aw qu : Nat → Nat} {hd sz : Nat} (h : zBf R C gl fr rk al aw qu hd sz) : ∀ f, f < R * C → aw f ≠ 1000 → f = gl ∨ f = fr ∨ al f = true := h.2.2.2.2.2.2.2.1
theorem zBf.i9 {R C gl fr : Nat} {rk al : Nat → Bool} {aw qu : Nat → Nat} {hd sz : Nat} (h : zBf R C gl fr rk al aw qu hd sz) : aw gl = 0 := h.2.2.2.2.2.2.2.2.1
theorem zBf.i10 {R C gl fr : Nat} {rk al : Nat → Bool} {aw qu : Nat → Nat} {hd sz : Nat} (h : zBf R C gl fr rk al aw qu hd sz) : ∀ f, f < R * C → aw f ≠ 1000 → aw f < sz := h.2.2.2.2.2.2.2.2.2
theorem zBf_mk {R C gl fr : Nat} {rk al : Nat → Bool} {aw qu : Nat → Nat} {hd sz : Nat} (i1 : sz = zKt (fun f => decide (aw f ≠ 1000)) (R * C)) (i2 : ∀ i, i < sz → qu i < R * C ∧ aw (qu i) ≤ i ∧ rk (qu i) = false) (i3 : ∀ f, f < R * C → aw f ≠ 1000 → ∃ i, i < sz ∧ qu i = f) (i4 : ∀ i j, i ≤ j → j < sz → aw (qu i) ≤ aw (qu j)) (i5 : hd < sz → ∀ j, j < sz → aw (qu j) ≤ aw (qu hd) + 1) (i6 : ∀ f, f < R * C → aw f ≠ 1000 → (aw fr ≠ 1000 ∧ aw fr < aw f) ∨ zDk R C gl (fun g => al g = true ∧ rk g = false) (aw f) f) (i7 : ∀ i, i < hd → i < sz → ∀ w, w < 8 → ∀ g : Nat, zbk R C rk (qu i) w = g → (g = fr ∨ al g = true) → aw g ≠ 1000 ∧ aw g ≤ aw (qu i) + 1) (i8 : ∀ f, f < R * C → aw f ≠ 1000 → f = gl ∨ f = fr ∨ al f = true) (i9 : aw gl = 0) (i10 : ∀ f, f < R * C → aw f ≠ 1000 → aw f < sz) : zBf R C gl fr rk al aw qu hd sz := ⟨i1, i2, i3, i4, i5, i6, i7, i8, i9, i10⟩
def zUp (f : Nat → Nat) (i x : Nat) : Nat → Nat := fun j => if j = i then x else f j
theorem zUp_e {f : Nat → Nat} {i x : Nat} : zUp f i x i = x := if_pos rfl
theorem zUp_n {f : Nat → Nat} {i x j : Nat} (h : j ≠ i) : zUp f i x j = f j := if_neg h
theorem zbk_e {R C f w g : Nat} {rk : Nat → Bool} (h : zbk R C rk f w = (g : Nat)) : zin R C f w = true ∧ zto C f w = g ∧ rk g = false := by
  unfold zbk at h
  by_cases e : zin R C f w = true ∧ rk (zto C f w) = false
  · rw [if_pos e] at h
    have h2 : zto C f w = g := by omega
    exact ⟨e.1, h2, by rw [← h2]; exact e.2⟩
  · rw [if_neg e] at h
    exact absurd h (by omega)
theorem zbk_i {R C f g : Nat} {rk : Nat → Bool} (h : zEdg R C f g) (hr : rk g = false) : ∃ w, w < 8 ∧ zbk R C rk f w = (g : Nat) := by
  obtain ⟨w, hw, h1, h2⟩ := h
  refine ⟨w, hw, ?_⟩
  unfold zbk
  rw [h2, if_pos ⟨h1, hr⟩]
section BFS
variable {R C gl fr : Nat} {rk al : Nat → Bool} {aw qu : Nat → Nat} {hd sz : Nat}
theorem zBf_0 (hgl : gl < R * C) (hr : rk gl = false) : zBf R C gl fr rk al (zUp (fun _ => 1000) gl 0) (zUp qu 0 gl) 0 1 := zBf_mk
  (i1 := by
    rw [zKt_u (p := fun _ => false) (r := fun f => decide (zUp (fun _ => 1000) gl 0 f ≠ 1000)) (x := gl) rfl (decide_eq_true (by rw [zUp_e]; decide)) (fun i hi => decide_eq_false (fun q => q (by rw [zUp_n hi]))) _ hgl, zKt_0])
  (i2 := fun i hi => by
    obtain rfl : i = 0 := by omega
    rw [zUp_e]
    exact ⟨hgl, by rw [zUp_e]; exact Nat.le_refl 0, hr⟩)
  (i3 := fun f hf h => by
    refine ⟨0, by omega, ?_⟩
    rw [zUp_e]
    by_cases e : f = gl
    · exact e.symm
    · exact absurd (zUp_n e) h)
  (i4 := fun i j h1 h2 => by
    obtain rfl : j = 0 := by omega
    obtain rfl : i = 0 := by omega
    exact Nat.le_refl _)
  (i5 := fun _ j hj => by
    obtain rfl : j = 0 := by omega
    omega)
  (i6 := fun f hf h => by
    by_cases e : f = gl
    · subst e
      rw [zUp_e]
      exact Or.inr rfl
    · exact absurd (zUp_n e) h)
  (i7 := fun i hi => absurd hi (Nat.not_lt_zero i))
  (i8 := fun f hf h => by
    by_cases e : f = gl
    · exact Or.inl e
    · exact absurd (zUp_n e) h)
  (i9 := zUp_e)
  (i10 := fun f hf h => by
    by_cases e : f = gl
    · subst e
      rw [zUp_e]
      omega
    · exact absurd (zUp_n e) h)
/-- the head's ways are looked at up to w -/
def zBw (R C fr : Nat) (rk al : Nat → Bool) (aw qu : Nat → Nat) (hd w : Nat) : Prop := ∀ u, u < w → ∀ g : Nat, zbk R C rk (qu hd) u = g → (g = fr ∨ al g = true) → aw g ≠ 1000 ∧ aw g ≤ aw (qu hd) + 1
theorem zBf_sz (h : zBf R C gl fr rk al aw qu hd sz) : sz ≤ R * C := by
  rw [h.i1]
  exact zKt_le _
theorem zBf_new (h : zBf R C gl fr rk al aw qu hd sz) {g : Nat} (hg : g < R * C) (ha : aw g = 1000) : sz < R * C := by
  rw [h.i1]
  exact zKt_lt (x := g) (decide_eq_false (fun q => q ha)) _ hg
theorem zBf_add (h : zBf R C gl fr rk al aw qu hd sz) (hN : R * C ≤ 49) (hC : 0 < C) (hh : hd < sz) {w g : Nat} (hw : w < 8) (hb : zbk R C rk (qu hd) w = (g : Nat)) (ha : aw g = 1000) (hal : g = fr ∨ al g = true) (hz : zBw R C fr rk al aw qu hd w) : zBf R C gl fr rk al (zUp aw g (aw (qu hd) + 1)) (zUp qu sz g) hd (sz + 1) ∧ zBw R C fr rk al (zUp aw g (aw (qu hd) + 1)) (zUp qu sz g) hd (w + 1) := by
  obtain ⟨b1, b2, b3⟩ := zbk_e hb
  have hg : g < R * C := by rw [← b2]; exact zto_lt b1
  have hsz := zBf_new h hg ha
  obtain ⟨q1, q2, q3⟩ := h.i2 hd hh
  have hq : qu hd ≠ g := fun e => by rw [e, ha] at q2; omega
  have hv : ∀ f, aw f ≠ 1000 → zUp aw g (aw (qu hd) + 1) f = aw f := fun f hf => zUp_n (fun e => hf (by rw [e]; exact ha))
  have hqv : ∀ i, i < sz → zUp qu sz g i = qu i := fun i hi => zUp_n (by omega)
  have hqa : ∀ i, i < sz → aw (qu i) ≠ 1000 := fun i hi e => by have := (h.i2 i hi).2.1; omega
  have hqw : ∀ i, i < sz → zUp aw g (aw (qu hd) + 1) (zUp qu sz g i) = aw (qu i) := fun i hi => by rw [hqv i hi]; exact hv _ (hqa i hi)
  have hnew : zUp aw g (aw (qu hd) + 1) (zUp qu sz g sz) = aw (qu hd) + 1 := by rw [zUp_e]; exact zUp_e
  have hvis : ∀ f, zUp aw g (aw (qu hd) + 1) f ≠ 1000 → f = g ∨ (f ≠ g ∧ aw f ≠ 1000) := fun f hf => by
    by_cases e : f = g
    · exact Or.inl e
    · exact Or.inr ⟨e, by rwa [zUp_n e] at hf⟩
  have hw2 : zBw R C fr rk al (zUp aw g (aw (qu hd) + 1)) (zUp qu sz g) hd (w + 1) := fun u hu g2 hb2 hal2 => by
    rw [hqv hd hh] at hb2
    rw [hqw hd hh]
    by_cases e : g2 = g
    · subst e
      rw [zUp_e]
      exact ⟨by omega, Nat.le_refl _⟩
    · rcases (show u < w ∨ u = w by omega) with hu | rfl
      · have h9 := hz u hu g2 hb2 hal2
        rw [zUp_n e]
        exact h9
      · exact absurd (by have := hb.symm.trans hb2; omega : g2 = g) e
  refine ⟨?_, hw2⟩
  refine zBf_mk (i1 := ?_) (i2 := ?_) (i3 := ?_) (i4 := ?_) (i5 := ?_) (i6 := ?_) (i7 := ?_) (i8 := ?_) (i9 := ?_) (i10 := ?_)
  · rw [zKt_u (p := fun f => decide (aw f ≠ 1000)) (r := fun f => decide (zUp aw g (aw (qu hd) + 1) f ≠ 1000)) (x := g) (decide_eq_false (fun q => q ha)) (decide_eq_true (by rw [zUp_e]; omega)) (fun i hi => by
      show decide (zUp aw g (aw (qu hd) + 1) i ≠ 1000) = decide (aw i ≠ 1000)
      rw [zUp_n hi]) _ hg, ← h.i1]
  · intro i hi
    by_cases e : i = sz
    · subst e
      rw [hnew, zUp_e]
      exact ⟨hg, by omega, b3⟩
    · rw [hqw i (by omega), hqv i (by omega)]
      exact h.i2 i (by omega)
  · intro f hf hfv
    rcases hvis f hfv with e | ⟨e, e2⟩
    · exact ⟨sz, by omega, by rw [e]; exact zUp_e⟩
    · obtain ⟨i, hi, hi2⟩ := h.i3 f hf e2
      exact ⟨i, by omega, by rw [hqv i hi]; exact hi2⟩
  · intro i j hij hj
    by_cases e : j = sz
    · subst e
      rw [hnew]
      by_cases e2 : i = j
      · subst e2
        rw [hnew]
        exact Nat.le_refl _
      · rw [hqw i (by omega)]
        exact h.i5 hh i (by omega)
    · rw [hqw i (by omega), hqw j (by omega)]
      exact h.i4 i j hij (by omega)
  · intro _ j hj
    rw [hqw hd hh]
    by_cases e : j = sz
    · subst e
      rw [hnew]
      exact Nat.le_refl _
    · rw [hqw j (by omega)]
      exact h.i5 hh j (by omega)
  · intro f hf hfv
    have hfr : aw fr ≠ 1000 → zUp aw g (aw (qu hd) + 1) fr = aw fr := hv fr
    rcases hvis f hfv with e | ⟨e, e2⟩
    · subst e
      rw [zUp_e]
      have hh6 := h.i6 (qu hd) q1 (hqa hd hh)
      have hed : zEdg R C f (qu hd) := zEdg_s hC q1 ⟨w, hw, b1, b2⟩
      rcases hh6 with ⟨c1, c2⟩ | c
      · rw [hfr c1]
        exact Or.inl ⟨c1, by omega⟩
      · rcases h.i8 (qu hd) q1 (hqa hd hh) with c3 | c3 | c3
        · exact Or.inr (Or.inr ⟨qu hd, hed, Or.inl c3, c⟩)
        · have c4 : aw fr ≠ 1000 := by rw [← c3]; exact hqa hd hh
          rw [hfr c4]
          exact Or.inl ⟨c4, by rw [← c3]; omega⟩
        · exact Or.inr (Or.inr ⟨qu hd, hed, Or.inr ⟨c3, q3⟩, c⟩)
    · rw [hv f e2]
      rcases h.i6 f hf e2 with ⟨c1, c2⟩ | c
      · rw [hfr c1]
        exact Or.inl ⟨c1, c2⟩
      · exact Or.inr c
  · intro i hi hi2 u hu g2 hb2 hal2
    rw [hqv i (by omega)] at hb2
    rw [hqw i (by omega)]
    have h9 := h.i7 i hi (by omega) u hu g2 hb2 hal2
    rw [hv g2 h9.1]
    exact h9
  · intro f hf hfv
    rcases hvis f hfv with e | ⟨e, e2⟩
    · rw [e]
      exact Or.inr hal
    · exact h.i8 f hf e2
  · rw [hv gl (by rw [h.i9]; decide)]
    exact h.i9
  · intro f hf hfv
    rcases hvis f hfv with e | ⟨e, e2⟩
    · subst e
      rw [zUp_e]
      have := h.i10 (qu hd) q1 (hqa hd hh)
      omega
    · rw [hv f e2]
      have := h.i10 f hf e2
      omega
/-- nothing new on the way w -/
theorem zBw_no {w : Nat} (hz : zBw R C fr rk al aw qu hd w) (h : ∀ g : Nat, zbk R C rk (qu hd) w = g → (g = fr ∨ al g = true) → aw g ≠ 1000 ∧ aw g ≤ aw (qu hd) + 1) : zBw R C fr rk al aw qu hd (w + 1) := fun u hu g hb hal => by
  rcases (show u < w ∨ u = w by omega) with hu | rfl
  · exact hz u hu g hb hal
  · exact h g hb hal
theorem zBf_old (h : zBf R C gl fr rk al aw qu hd sz) (hh : hd < sz) {g : Nat} (hg : g < R * C) (ha : aw g ≠ 1000) : aw g ≤ aw (qu hd) + 1 := by
  obtain ⟨i, hi, e⟩ := h.i3 g hg ha
  rw [← e]
  exact h.i5 hh i hi
/-- the next head -/
theorem zBf_next (h : zBf R C gl fr rk al aw qu hd sz) (hh : hd < sz) (hz : zBw R C fr rk al aw qu hd 8) : zBf R C gl fr rk al aw qu (hd + 1) sz := zBf_mk
  (i1 := h.i1)
  (i2 := h.i2)
  (i3 := h.i3)
  (i4 := h.i4)
  (i5 := fun h1 j hj => Nat.le_trans (h.i5 hh j hj) (Nat.add_le_add_right (h.i4 hd (hd + 1) (by omega) h1) 1))
  (i6 := h.i6)
  (i7 := fun i hi hi2 w hw g hb hal => by
    rcases (show i < hd ∨ i = hd by omega) with h1 | rfl
    · exact h.i7 i h1 hi2 w hw g hb hal
    · exact hz w hw g hb hal)
  (i8 := h.i8)
  (i9 := h.i9)
  (i10 := h.i10)
/-- at the end -/
theorem zBf_all (h : zBf R C gl fr rk al aw qu hd sz) (hN : R * C ≤ 49) (hC : 0 < C) (hs : sz ≤ hd) (hgl : gl < R * C) (hrg : rk gl = false) : ∀ k f, f < R * C → rk f = false → (f = gl ∨ f = fr ∨ al f = true) → zDk R C gl (fun g => al g = true ∧ rk g = false) k f → aw f ≠ 1000 ∧ aw f ≤ k := by
  intro k
  induction k with
  | zero =>
    intro f _ _ _ hk
    obtain rfl : f = gl := hk
    rw [h.i9]
    exact ⟨by decide, Nat.le_refl 0⟩
  | succ k ih =>
    intro f hf hrf hof hk
    rcases hk with hk | ⟨g, he, hg, hk⟩
    · have := ih f hf hrf hof hk
      exact ⟨this.1, by omega⟩
    · have hgN := zEdg_lt he
      have hrg2 : rk g = false := by
        rcases hg with e | e
        · rw [e]; exact hrg
        · exact e.2
      have h1 := ih g hgN hrg2 (by rcases hg with e | e; exact Or.inl e; exact Or.inr (Or.inr e.1)) hk
      obtain ⟨i, hi, hi2⟩ := h.i3 g hgN h1.1
      rcases hof with e | hof
      · rw [e, h.i9]
        exact ⟨by decide, Nat.zero_le _⟩
      · obtain ⟨w, hw, hb⟩ := zbk_i (zEdg_s hC hf he) hrf
        rw [← hi2] at hb h1
        have h2 := h.i7 i (by omega) hi w hw f hb hof
        exact ⟨h2.1, by omega⟩
/-- what the search finds of fr -/
theorem zBf_fr (h : zBf R C gl fr rk al aw qu hd sz) (hN : R * C ≤ 49) (hC : 0 < C) (hs : sz ≤ hd) (hgl : gl < R * C) (hrg : rk gl = false) (hfr : fr < R * C) (hrf : rk fr = false) : (aw fr = 1000 ∧ ∀ k, ¬ zDk R C gl (fun g => al g = true ∧ rk g = false) k fr) ∨ (aw fr < R * C ∧ zDk R C gl (fun g => al g = true ∧ rk g = false) (aw fr) fr ∧ ∀ k, zDk R C gl (fun g => al g = true ∧ rk g = false) k fr → aw fr ≤ k) := by
  have ha := fun k => zBf_all h hN hC hs hgl hrg k fr hfr hrf (Or.inr (Or.inl rfl))
  by_cases e : aw fr = 1000
  · exact Or.inl ⟨e, fun k hk => (ha k hk).1 e⟩
  · refine Or.inr ⟨Nat.lt_of_lt_of_le (h.i10 fr hfr e) (zBf_sz h), ?_, fun k hk => (ha k hk).2⟩
    rcases h.i6 fr hfr e with ⟨-, c⟩ | c
    · exact absurd c (Nat.lt_irrefl _)
    · exact c
end BFS
/-- the rounds over all fields, the reference: n rounds are over, in this one the fields below f and the ways below w of f -/
def zFi (R C gl fr : Nat) (ov : Nat → Prop) (fa : Nat → Nat) (n f w : Nat) : Prop := (∀ f, f < R * C → fa f < 1000000 → zDk R C gl ov (fa f) f) ∧ (∀ f, f < R * C → fa f ≤ 1000000) ∧ (∀ g, g < R * C → (g = gl ∨ g = fr ∨ ov g) → ∀ k, k ≤ n → zDk R C gl ov k g → fa g ≤ k) ∧ (∀ g, g < f → g < R * C → (g = gl ∨ g = fr ∨ ov g) → ∀ k, k ≤ n + 1 → zDk R C gl ov k g → fa g ≤ k) ∧ (∀ u, u < w → zin R C f u = true → (f = fr ∨ ov f) → (zto C f u = gl ∨ ov (zto C f u)) → ∀ k, k ≤ n → zDk R C gl ov k (zto C f u) → fa f ≤ k + 1)
theorem zFi.s {R C gl fr : Nat} {ov : Nat → Prop} {fa : Nat → Nat} {n f w : Nat} (h : zFi R C gl fr ov fa n f w) : ∀ f, f < R * C → fa f < 1000000 → zDk R C gl ov (fa f) f := h.1
theorem zFi.t {R C gl fr : Nat} {ov : Nat → Prop} {fa : Nat → Nat} {n f w : Nat} (h : zFi R C gl fr ov fa n f w) : ∀ f, f < R * C → fa f ≤ 1000000 := h.2.1
theorem zFi.a {R C gl fr : Nat} {ov : Nat → Prop} {fa : Nat → Nat} {n f w : Nat} (h : zFi R C gl fr ov fa n f w) : ∀ g, g < R * C → (g = gl ∨ g = fr ∨ ov g) → ∀ k, k ≤ n → zDk R C gl ov k g → fa g ≤ k := h.2.2.1
theorem zFi.b {R C gl fr : Nat} {ov : Nat → Prop} {fa : Nat → Nat} {n f w : Nat} (h : zFi R C gl fr ov fa n f w) : ∀ g, g < f → g < R * C → (g = gl ∨ g = fr ∨ ov g) → ∀ k, k ≤ n + 1 → zDk R C gl ov k g → fa g ≤ k := h.2.2.2.1
theorem zFi.c {R C gl fr : Nat} {ov : Nat → Prop} {fa : Nat → Nat} {n f w : Nat} (h : zFi R C gl fr ov fa n f w) : ∀ u, u < w → zin R C f u = true → (f = fr ∨ ov f) → (zto C f u = gl ∨ ov (zto C f u)) → ∀ k, k ≤ n → zDk R C gl ov k (zto C f u) → fa f ≤ k + 1 := h.2.2.2.2
theorem zFi_mk {R C gl fr : Nat} {ov : Nat → Prop} {fa : Nat → Nat} {n f w : Nat} (s : ∀ f, f < R * C → fa f < 1000000 → zDk R C gl ov (fa f) f) (t : ∀ f, f < R * C → fa f ≤ 1000000) (a : ∀ g, g < R * C → (g = gl ∨ g = fr ∨ ov g) → ∀ k, k ≤ n → zDk R C gl ov k g → fa g ≤ k) (b : ∀ g, g < f → g < R * C → (g = gl ∨ g = fr ∨ ov g) → ∀ k, k ≤ n + 1 → zDk R C gl ov k g → fa g ≤ k) (c : ∀ u, u < w → zin R C f u = true → (f = fr ∨ ov f) → (zto C f u = gl ∨ ov (zto C f u)) → ∀ k, k ≤ n → zDk R C gl ov k (zto C f u) → fa f ≤ k + 1) : zFi R C gl fr ov fa n f w := ⟨s, t, a, b, c⟩
section FAR
variable {R C gl fr : Nat} {ov : Nat → Prop} {fa : Nat → Nat} {n f w : Nat}
theorem zFi_0 (h1 : ∀ f, f < R * C → fa f = if f = gl then 0 else 1000000) : zFi R C gl fr ov fa 0 0 0 := zFi_mk
  (s := fun f hf h => by
    by_cases e : f = gl
    · rw [h1 f hf, if_pos e]
      exact e
    · rw [h1 f hf, if_neg e] at h
      exact absurd h (Nat.lt_irrefl _))
  (t := fun f hf => by
    rw [h1 f hf]
    split
    · exact Nat.zero_le _
    · exact Nat.le_refl _)
  (a := fun g hg _ k hk hd => by
    obtain rfl : k = 0 := by omega
    rw [h1 g hg, if_pos (show g = gl from hd)]
    exact Nat.le_refl 0)
  (b := fun g hg => absurd hg (Nat.not_lt_zero g))
  (c := fun u hu => absurd hu (Nat.not_lt_zero u))
theorem zFi_set (h : zFi R C gl fr ov fa n f w) (hf : f < R * C) (hw : w < 8) (hi : zin R C f w = true) (h2 : zto C f w = gl ∨ ov (zto C f w)) : zFi R C gl fr ov (zUp fa f (min (fa f) (fa (zto C f w) + 1))) n f (w + 1) := by
  have hm : ∀ g, zUp fa f (min (fa f) (fa (zto C f w) + 1)) g ≤ fa g := fun g => by
    by_cases e : g = f
    · subst e
      rw [zUp_e]
      exact Nat.min_le_left _ _
    · rw [zUp_n e]
      exact Nat.le_refl _
  refine zFi_mk (s := ?_) (t := ?_) (a := ?_) (b := ?_) (c := ?_)
  · intro g hg hl
    by_cases e : g = f
    · subst e
      rw [zUp_e] at hl ⊢
      by_cases e2 : fa g ≤ fa (zto C g w) + 1
      · rw [Nat.min_eq_left e2] at hl ⊢
        exact h.s g hg hl
      · rw [Nat.min_eq_right (by omega)] at hl ⊢
        exact Or.inr ⟨zto C g w, ⟨w, hw, hi, rfl⟩, h2, h.s _ (zto_lt hi) (by omega)⟩
    · rw [zUp_n e] at hl ⊢
      exact h.s g hg hl
  · exact fun g hg => Nat.le_trans (hm g) (h.t g hg)
  · exact fun g hg h3 k hk hd => Nat.le_trans (hm g) (h.a g hg h3 k hk hd)
  · exact fun g hg hgN h3 k hk hd => Nat.le_trans (hm g) (h.b g hg hgN h3 k hk hd)
  · intro u hu h3 h4 h5 k hk hd
    rcases (show u < w ∨ u = w by omega) with hu | rfl
    · exact Nat.le_trans (hm f) (h.c u hu h3 h4 h5 k hk hd)
    · rw [zUp_e]
      have h6 := h.a (zto C f u) (zto_lt hi) (by rcases h5 with e | e; exact Or.inl e; exact Or.inr (Or.inr e)) k hk hd
      exact Nat.le_trans (Nat.min_le_right _ _) (by omega)
theorem zFi_no (h : zFi R C gl fr ov fa n f w) (h2 : ¬ (zin R C f w = true ∧ (f = fr ∨ ov f) ∧ (zto C f w = gl ∨ ov (zto C f w)))) : zFi R C gl fr ov fa n f (w + 1) := zFi_mk
  (s := h.s)
  (t := h.t)
  (a := h.a)
  (b := h.b)
  (c := fun u hu h3 h4 h5 k hk hd => by
    rcases (show u < w ∨ u = w by omega) with hu | rfl
    · exact h.c u hu h3 h4 h5 k hk hd
    · exact absurd ⟨h3, h4, h5⟩ h2)
theorem zFi_f (h : zFi R C gl fr ov fa n f 8) (hf : f < R * C) : zFi R C gl fr ov fa n (f + 1) 0 := zFi_mk
  (s := h.s)
  (t := h.t)
  (a := h.a)
  (b := fun g hg hgN h3 k hk hd => by
    rcases (show g < f ∨ g = f by omega) with h1 | rfl
    · exact h.b g h1 hgN h3 k hk hd
    · rcases (show k ≤ n ∨ k = n + 1 by omega) with hk | rfl
      · exact h.a g hgN h3 k hk hd
      · rcases hd with hd | ⟨x, ⟨u, hu, hi, rfl⟩, h5, hd⟩
        · have := h.a g hgN h3 n (Nat.le_refl n) hd
          omega
        · rcases h3 with e | h3
          · have := h.a g hgN (Or.inl e) 0 (Nat.zero_le n) e
            omega
          · exact h.c u hu hi h3 h5 n (Nat.le_refl n) hd)
  (c := fun u hu => absurd hu (Nat.not_lt_zero u))
theorem zFi_n (h : zFi R C gl fr ov fa n f 0) (hf : R * C ≤ f) : zFi R C gl fr ov fa (n + 1) 0 0 := zFi_mk
  (s := h.s)
  (t := h.t)
  (a := fun g hg h3 k hk hd => h.b g (by omega) hg h3 k hk hd)
  (b := fun g hg => absurd hg (Nat.not_lt_zero g))
  (c := fun u hu => absurd hu (Nat.not_lt_zero u))
/-- the answer: how many steps, by both -/
def zWy (R C gl fr : Nat) (ov : Nat → Prop) (rk : Nat → Bool) (no : Int32) (v : Option Value) : Prop := if rk fr = true ∨ rk gl = true then v = some (.int no) else ((∃ k, k < R * C ∧ zDk R C gl ov k fr ∧ (∀ j, zDk R C gl ov j fr → k ≤ j) ∧ v = some (.int (zn k))) ∨ ((∀ k, ¬ zDk R C gl ov k fr) ∧ v = some (.int no)))
theorem zWy_u {rk : Nat → Bool} {no : Int32} {v v2 : Option Value} (h : zWy R C gl fr ov rk no v) (h2 : zWy R C gl fr ov rk no v2) : v = v2 := by
  unfold zWy at h h2
  by_cases e : rk fr = true ∨ rk gl = true
  · rw [if_pos e] at h h2
    rw [h, h2]
  · rw [if_neg e] at h h2
    rcases h with ⟨k, -, h1, h3, h4⟩ | ⟨h1, h4⟩
    · rcases h2 with ⟨j, -, g1, g3, g4⟩ | ⟨g1, g4⟩
      · have a := h3 j g1
        have b := g3 k h1
        rw [h4, g4, show k = j by omega]
      · exact absurd h1 (g1 k)
    · rcases h2 with ⟨j, -, g1, g3, g4⟩ | ⟨g1, g4⟩
      · exact absurd g1 (h1 j)
      · rw [h4, g4]
/-- what the rounds leave: N rounds find what any number would, by what the search finds -/
theorem zFi_fr (h : zFi R C gl fr ov fa (R * C) 0 0) (hfr : fr < R * C) (hN : R * C ≤ 49) (hs : (∀ k, ¬ zDk R C gl ov k fr) ∨ ∃ k, k < R * C ∧ zDk R C gl ov k fr ∧ ∀ j, zDk R C gl ov j fr → k ≤ j) : (fa fr = 1000000 ∧ ∀ k, ¬ zDk R C gl ov k fr) ∨ (fa fr < R * C ∧ zDk R C gl ov (fa fr) fr ∧ ∀ j, zDk R C gl ov j fr → fa fr ≤ j) := by
  rcases hs with hs | ⟨k, h1, h2, h3⟩
  · refine Or.inl ⟨?_, hs⟩
    have a := h.t fr hfr
    by_cases e : fa fr < 1000000
    · exact absurd (h.s fr hfr e) (hs _)
    · omega
  · have a := h.a fr hfr (Or.inr (Or.inl rfl)) k (by omega) h2
    have b := h3 _ (h.s fr hfr (by omega))
    have e : fa fr = k := by omega
    rw [e]
    exact Or.inr ⟨h1, h2, h3⟩
/-- from another's answer: what can be reached can be within so many steps -/
def zHsr (R C gl fr : Nat) (ov : Nat → Prop) : Prop := (∀ k, ¬ zDk R C gl ov k fr) ∨ ∃ k, k < R * C ∧ zDk R C gl ov k fr ∧ ∀ j, zDk R C gl ov j fr → k ≤ j
theorem zWy_hs {rk : Nat → Bool} {no : Int32} {v : Option Value} (h : zWy R C gl fr ov rk no v) (h1 : rk fr = false) (h2 : rk gl = false) : zHsr R C gl fr ov := by
  unfold zWy at h
  rw [if_neg (by rw [h1, h2]; decide)] at h
  rcases h with ⟨k, a, b, c, -⟩ | ⟨a, -⟩
  · exact Or.inr ⟨k, a, b, c⟩
  · exact Or.inl a
end FAR
