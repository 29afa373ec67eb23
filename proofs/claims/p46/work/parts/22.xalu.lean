/-! X: reckoning -/
theorem x32_lo (x : Int32) : -2147483648 ≤ x.toInt := by have := x.le_toInt; omega
theorem x32_hi (x : Int32) : x.toInt ≤ 2147483647 := by have := x.toInt_lt; omega
theorem x64_lo (x : Int64) : -9223372036854775808 ≤ x.toInt := by have := x.le_toInt; omega
theorem x64_hi (x : Int64) : x.toInt ≤ 9223372036854775807 := by have := x.toInt_lt; omega
theorem xbm {v : Int} (h1 : -2147483648 ≤ v) (h2 : v ≤ 2147483647) : v.bmod (2 ^ 32) = v := Int.bmod_eq_of_le (by omega) (by omega)
def xtop (n : Nat) : xi := (n, 0, -2147483648, 2147483647)
def xtopL (n : Nat) : xi := (n, 0, -9223372036854775808, 9223372036854775807)
theorem xfresh {σ : Nat → Int} {n : Nat} {x l h : Int} (h1 : l ≤ x) (h2 : x ≤ h) : xiG (xup σ n x) (n + 1) x (n, 0, l, h) := ⟨Nat.lt_succ_self n, by show x = xup σ n x n + 0; rw [xup_self]; omega, h1, h2⟩
theorem xtop_ok {σ : Nat → Int} {n : Nat} (x : Int32) : xiG (xup σ n x.toInt) (n + 1) x.toInt (xtop n) := xfresh (x32_lo x) (x32_hi x)
theorem xtopL_ok {σ : Nat → Int} {n : Nat} (x : Int64) : xiG (xup σ n x.toInt) (n + 1) x.toInt (xtopL n) := xfresh (x64_lo x) (x64_hi x)
def xfits (l h : Int) : Bool := bif zle (-2147483648) l then zle h 2147483647 else false
theorem xfits_ok {l h x : Int} (hf : xfits l h = true) (h1 : l ≤ x) (h2 : x ≤ h) : -2147483648 ≤ x ∧ x ≤ 2147483647 := by
  obtain ⟨a, b⟩ := x_and hf
  have := zle_le a
  have := zle_le b
  omega
/-- what an operation on bounds must give -/
def xop (P : Int32 → Prop) (op : Nat → xi → xi → Option xi) (F : Int32 → Int32 → Int32) : Prop := ∀ (n : Nat) (σ : Nat → Int) (x y : Int32) (q r z : xi), op n q r = some z → xiG σ n x.toInt q → xiG σ n y.toInt r → 0 < n → σ 0 = 0 → P y ∧ ∃ e, xiG (xup σ n e) (n + 1) (F x y).toInt z
def xZ (t : Nat) : Bool := Nat.beq t 0
theorem xZ_ok {t : Nat} (h : xZ t = true) : t = 0 := Nat.eq_of_beq_eq_true h
theorem xkeep {σ : Nat → Int} {n t : Nat} {x c l h e : Int} (ht : t < n) (hx : x = σ t + c) (h1 : l ≤ x) (h2 : x ≤ h) : xiG (xup σ n e) (n + 1) x (t, c, l, h) := ⟨Nat.lt_succ_of_lt ht, by show x = xup σ n e t + c; rw [xup_lt ht]; exact hx, h1, h2⟩
def xo_add (n : Nat) (q r : xi) : Option xi := match q, r with
  | (t, c, l, h), (u, d, a, b) => bif xfits (Int.add l a) (Int.add h b) then
      (bif xZ u then some (t, Int.add c d, Int.add l a, Int.add h b) else bif xZ t then some (u, Int.add c d, Int.add l a, Int.add h b) else some (n, 0, Int.add l a, Int.add h b))
    else some (xtop n)
theorem xo_add_ok : xop (fun _ => True) xo_add (· + ·) := by
  intro n σ x y q r z hz hq hr hn h0
  refine ⟨trivial, ?_⟩
  show ∃ e, xiG (xup σ n e) (n + 1) (x + y).toInt z
  obtain ⟨t, c, l, h⟩ := q
  obtain ⟨u, d, a, b⟩ := r
  obtain ⟨q1, q2, q3, q4⟩ := hq
  obtain ⟨r1, r2, r3, r4⟩ := hr
  simp only at q1 q2 q3 q4 r1 r2 r3 r4
  unfold xo_add at hz
  simp only at hz
  cases hf : xfits (Int.add l a) (Int.add h b) with
  | false => rw [hf] at hz; cases hz; exact ⟨_, xtop_ok _⟩
  | true =>
    rw [hf] at hz
    have b1 : Int.add l a ≤ x.toInt + y.toInt := by show l + a ≤ _; omega
    have b2 : x.toInt + y.toInt ≤ Int.add h b := by show _ ≤ h + b; omega
    obtain ⟨f1, f2⟩ := xfits_ok hf b1 b2
    have e : (x + y).toInt = x.toInt + y.toInt := by rw [Int32.toInt_add, xbm f1 f2]
    simp only [cond_true] at hz
    cases hu : xZ u with
    | true =>
      rw [hu] at hz
      cases hz
      have := xZ_ok hu
      subst this
      exact ⟨0, xkeep q1 (by rw [e]; show _ = σ t + (c + d); omega) (by rw [e]; exact b1) (by rw [e]; exact b2)⟩
    | false =>
      rw [hu] at hz
      simp only [cond_false] at hz
      cases ht : xZ t with
      | true =>
        rw [ht] at hz
        cases hz
        have := xZ_ok ht
        subst this
        exact ⟨0, xkeep r1 (by rw [e]; show _ = σ u + (c + d); omega) (by rw [e]; exact b1) (by rw [e]; exact b2)⟩
      | false =>
        rw [ht] at hz
        cases hz
        exact ⟨_, xfresh (by rw [e]; exact b1) (by rw [e]; exact b2)⟩
def xo_sub (n : Nat) (q r : xi) : Option xi := match q, r with
  | (t, c, l, h), (u, d, a, b) => bif xfits (Int.sub l b) (Int.sub h a) then
      (bif xZ u then some (t, Int.sub c d, Int.sub l b, Int.sub h a) else bif Nat.beq t u then some (0, Int.sub c d, Int.sub c d, Int.sub c d) else some (n, 0, Int.sub l b, Int.sub h a))
    else some (xtop n)
theorem xo_sub_ok : xop (fun _ => True) xo_sub (· - ·) := by
  intro n σ x y q r z hz hq hr hn h0
  refine ⟨trivial, ?_⟩
  show ∃ e, xiG (xup σ n e) (n + 1) (x - y).toInt z
  obtain ⟨t, c, l, h⟩ := q
  obtain ⟨u, d, a, b⟩ := r
  obtain ⟨q1, q2, q3, q4⟩ := hq
  obtain ⟨r1, r2, r3, r4⟩ := hr
  simp only at q1 q2 q3 q4 r1 r2 r3 r4
  unfold xo_sub at hz
  simp only at hz
  cases hf : xfits (Int.sub l b) (Int.sub h a) with
  | false => rw [hf] at hz; cases hz; exact ⟨_, xtop_ok _⟩
  | true =>
    rw [hf] at hz
    have b1 : Int.sub l b ≤ x.toInt - y.toInt := by show l - b ≤ _; omega
    have b2 : x.toInt - y.toInt ≤ Int.sub h a := by show _ ≤ h - a; omega
    obtain ⟨f1, f2⟩ := xfits_ok hf b1 b2
    have e : (x - y).toInt = x.toInt - y.toInt := by rw [Int32.toInt_sub, xbm f1 f2]
    simp only [cond_true] at hz
    cases hu : xZ u with
    | true =>
      rw [hu] at hz
      cases hz
      have := xZ_ok hu
      subst this
      exact ⟨0, xkeep q1 (by rw [e]; show _ = σ t + (c - d); omega) (by rw [e]; exact b1) (by rw [e]; exact b2)⟩
    | false =>
      rw [hu] at hz
      simp only [cond_false] at hz
      cases ht : Nat.beq t u with
      | true =>
        rw [ht] at hz
        cases hz
        have := Nat.eq_of_beq_eq_true ht
        subst this
        have e2 : (x - y).toInt = c - d := by rw [e]; omega
        exact ⟨0, xkeep hn (by rw [e2, h0]; show c - d = 0 + (c - d); omega) (by rw [e2]; exact Int.le_refl _) (by rw [e2]; exact Int.le_refl _)⟩
      | false =>
        rw [ht] at hz
        cases hz
        exact ⟨_, xfresh (by rw [e]; exact b1) (by rw [e]; exact b2)⟩
def xo_mul (n : Nat) (q r : xi) : Option xi := match q, r with
  | (_, _, l, h), (_, _, a, b) => bif (bif zle 0 l then bif zle 0 a then xfits (Int.mul l a) (Int.mul h b) else false else false) then some (n, 0, Int.mul l a, Int.mul h b) else some (xtop n)
theorem xo_mul_ok : xop (fun _ => True) xo_mul (· * ·) := by
  intro n σ x y q r z hz hq hr hn h0
  refine ⟨trivial, ?_⟩
  show ∃ e, xiG (xup σ n e) (n + 1) (x * y).toInt z
  obtain ⟨t, c, l, h⟩ := q
  obtain ⟨u, d, a, b⟩ := r
  obtain ⟨q1, q2, q3, q4⟩ := hq
  obtain ⟨r1, r2, r3, r4⟩ := hr
  simp only at q1 q2 q3 q4 r1 r2 r3 r4
  unfold xo_mul at hz
  simp only at hz
  cases hf : (bif zle 0 l then bif zle 0 a then xfits (Int.mul l a) (Int.mul h b) else false else false) with
  | false => rw [hf] at hz; cases hz; exact ⟨_, xtop_ok _⟩
  | true =>
    rw [hf] at hz
    cases hz
    obtain ⟨g1, g⟩ := x_and hf
    obtain ⟨g2, g3⟩ := x_and g
    have p1 := zle_le g1
    have p2 := zle_le g2
    have b1 : Int.mul l a ≤ x.toInt * y.toInt := Int.mul_le_mul q3 r3 p2 (by omega)
    have b2 : x.toInt * y.toInt ≤ Int.mul h b := Int.mul_le_mul q4 r4 (by omega) (by omega)
    obtain ⟨f1, f2⟩ := xfits_ok g3 b1 b2
    have e : (x * y).toInt = x.toInt * y.toInt := by rw [Int32.toInt_mul, xbm f1 f2]
    exact ⟨_, xfresh (by rw [e]; exact b1) (by rw [e]; exact b2)⟩
theorem xnn {x : Int32} (h : 0 ≤ x.toInt) : x.toInt = (x.toBitVec.toNat : Int) ∧ x.toBitVec.toNat < 2147483648 := by
  have h1 : x.toInt = x.toBitVec.toInt := rfl
  have h2 := x.toBitVec.isLt
  rw [h1, BitVec.toInt_eq_toNat_cond] at h
  rw [h1, BitVec.toInt_eq_toNat_cond]
  split at h <;> split <;> omega
theorem xnb {x : Int32} (h : x.toBitVec.toNat < 2147483648) : x.toInt = (x.toBitVec.toNat : Int) := by
  have h1 : x.toInt = x.toBitVec.toInt := rfl
  rw [h1, BitVec.toInt_eq_toNat_cond]
  split <;> omega
def xo_and (n : Nat) (q r : xi) : Option xi := match q, r with
  | (t, c, l, h), (_, _, a, b) => bif (bif zle 255 a then bif zle b 255 then bif zle 0 l then zle h 255 else false else false else false) then some (t, c, l, h) else bif zle 0 a then (bif zle 0 l then some (n, 0, 0, zmin h b) else some (n, 0, 0, b)) else bif zle 0 l then some (n, 0, 0, h) else some (xtop n)
theorem xand_le {x y : Int32} (h : 0 ≤ y.toInt) : 0 ≤ (x &&& y).toInt ∧ (x &&& y).toInt ≤ y.toInt := by
  obtain ⟨h1, h2⟩ := xnn h
  have h3 : (x &&& y).toBitVec.toNat = x.toBitVec.toNat &&& y.toBitVec.toNat := by simp
  have h4 : x.toBitVec.toNat &&& y.toBitVec.toNat ≤ y.toBitVec.toNat := Nat.and_le_right
  have h5 : (x &&& y).toInt = ((x &&& y).toBitVec.toNat : Int) := xnb (by omega)
  omega
theorem xand_comm (x y : Int32) : x &&& y = y &&& x := by
  apply Int32.toBitVec_inj.mp
  simp [BitVec.and_comm]
theorem xand255 {x : Int32} (h0 : 0 ≤ x.toInt) (h1 : x.toInt ≤ 255) {y : Int32} (hy : y.toInt = 255) : (x &&& y).toInt = x.toInt := by
  have ey : y = Int32.ofInt 255 := Int32.toInt_inj.mp (by rw [hy]; decide)
  subst ey
  obtain ⟨h2, h3⟩ := xnn h0
  have h4 : (x &&& Int32.ofInt 255).toBitVec.toNat = x.toBitVec.toNat &&& 255 := by simp
  have h5 : x.toBitVec.toNat &&& 255 = x.toBitVec.toNat := by
    rw [show (255 : Nat) = 2 ^ 8 - 1 from rfl, Nat.and_two_pow_sub_one_eq_mod]
    exact Nat.mod_eq_of_lt (by omega)
  have h6 : (x &&& Int32.ofInt 255).toInt = ((x &&& Int32.ofInt 255).toBitVec.toNat : Int) := xnb (by omega)
  omega
theorem xo_and_ok : xop (fun _ => True) xo_and (· &&& ·) := by
  intro n σ x y q r z hz hq hr hn h0
  refine ⟨trivial, ?_⟩
  show ∃ e, xiG (xup σ n e) (n + 1) (x &&& y).toInt z
  obtain ⟨t, c, l, h⟩ := q
  obtain ⟨u, d, a, b⟩ := r
  obtain ⟨q1, q2, q3, q4⟩ := hq
  obtain ⟨r1, r2, r3, r4⟩ := hr
  simp only at q1 q2 q3 q4 r1 r2 r3 r4
  unfold xo_and at hz
  simp only at hz
  cases h9 : (bif zle 255 a then bif zle b 255 then bif zle 0 l then zle h 255 else false else false else false) with
  | true =>
    rw [h9] at hz
    cases hz
    obtain ⟨e1, h9⟩ := x_and h9
    obtain ⟨e2, h9⟩ := x_and h9
    obtain ⟨e3, e4⟩ := x_and h9
    have e1 := zle_le e1
    have e2 := zle_le e2
    have e3 := zle_le e3
    have e4 := zle_le e4
    have e5 := xand255 (x := x) (y := y) (by omega) (by omega) (by omega)
    exact ⟨0, xkeep q1 (by rw [e5]; exact q2) (by rw [e5]; exact q3) (by rw [e5]; exact q4)⟩
  | false =>
  rw [h9] at hz
  simp only [cond_false] at hz
  cases ha : zle 0 a with
  | true =>
    rw [ha] at hz
    have p := zle_le ha
    obtain ⟨g1, g2⟩ := xand_le (x := x) (y := y) (by omega)
    cases hl : zle 0 l with
    | true =>
      rw [hl] at hz
      cases hz
      have p := zle_le hl
      obtain ⟨g3, g4⟩ := xand_le (x := y) (y := x) (by omega)
      rw [xand_comm] at g3 g4
      exact ⟨_, xfresh g1 (zmin_le (by omega) (by omega))⟩
    | false =>
      rw [hl] at hz
      cases hz
      exact ⟨_, xfresh g1 (by omega)⟩
  | false =>
    rw [ha] at hz
    simp only [cond_false] at hz
    cases hl : zle 0 l with
    | true =>
      rw [hl] at hz
      cases hz
      have p := zle_le hl
      obtain ⟨g3, g4⟩ := xand_le (x := y) (y := x) (by omega)
      rw [xand_comm] at g3 g4
      exact ⟨_, xfresh g3 (by omega)⟩
    | false => rw [hl] at hz; cases hz; exact ⟨_, xtop_ok _⟩
/-- the least of some numbers of ones that is not below -/
def xones (h : Int) : Int := bif zle h 0 then 0 else bif zle h 1 then 1 else bif zle h 3 then 3 else bif zle h 7 then 7 else bif zle h 15 then 15 else bif zle h 31 then 31 else bif zle h 63 then 63 else bif zle h 127 then 127 else bif zle h 255 then 255 else bif zle h 65535 then 65535 else 2147483647
theorem xones_ok {h : Int} (hh : h ≤ 2147483647) : h ≤ xones h ∧ ∃ k, k ≤ 31 ∧ xones h + 1 = ((2 ^ k : Nat) : Int) := by
  unfold xones
  cases h1 : zle h 0 with
  | true => exact ⟨zle_le h1, 0, by decide, rfl⟩
  | false =>
    simp only [cond_false]
    cases h2 : zle h 1 with
    | true => exact ⟨zle_le h2, 1, by decide, rfl⟩
    | false =>
      simp only [cond_false]
      cases h3 : zle h 3 with
      | true => exact ⟨zle_le h3, 2, by decide, rfl⟩
      | false =>
        simp only [cond_false]
        cases h4 : zle h 7 with
        | true => exact ⟨zle_le h4, 3, by decide, rfl⟩
        | false =>
          simp only [cond_false]
          cases h5 : zle h 15 with
          | true => exact ⟨zle_le h5, 4, by decide, rfl⟩
          | false =>
            simp only [cond_false]
            cases h6 : zle h 31 with
            | true => exact ⟨zle_le h6, 5, by decide, rfl⟩
            | false =>
              simp only [cond_false]
              cases h7 : zle h 63 with
              | true => exact ⟨zle_le h7, 6, by decide, rfl⟩
              | false =>
                simp only [cond_false]
                cases h8 : zle h 127 with
                | true => exact ⟨zle_le h8, 7, by decide, rfl⟩
                | false =>
                  simp only [cond_false]
                  cases h9 : zle h 255 with
                  | true => exact ⟨zle_le h9, 8, by decide, rfl⟩
                  | false =>
                    simp only [cond_false]
                    cases h10 : zle h 65535 with
                    | true => exact ⟨zle_le h10, 16, by decide, rfl⟩
                    | false =>
                      exact ⟨hh, 31, by decide, rfl⟩
def xo_or (n : Nat) (q r : xi) : Option xi := match q, r with
  | (_, _, l, h), (_, _, a, b) => bif (bif zle 0 a then zle 0 l else false) then some (n, 0, 0, zmin (Int.add h b) (xones (zmax h b))) else some (xtop n)
theorem xor_le : ∀ (a b : Nat), a ||| b ≤ a + b := by
  intro a
  induction a using Nat.strongRecOn with
  | ind a ih =>
    intro b
    by_cases ha : a = 0
    · subst ha
      simp
    · have h1 := ih (a / 2) (by omega) (b / 2)
      have h2 : (a ||| b) / 2 = a / 2 ||| b / 2 := Nat.or_div_two
      have h3 : (a ||| b) % 2 ≤ a % 2 + b % 2 := by
        have h4 : (a ||| b) % 2 ^ 1 = (a % 2 ^ 1) ||| (b % 2 ^ 1) := Nat.or_mod_two_pow
        have h5 : (a ||| b) % 2 = (a % 2) ||| (b % 2) := h4
        rw [h5]
        have e1 : a % 2 = 0 ∨ a % 2 = 1 := by omega
        have f1 : b % 2 = 0 ∨ b % 2 = 1 := by omega
        rcases e1 with e | e <;> rcases f1 with f | f <;> rw [e, f] <;> decide
      omega
theorem xo_or_ok : xop (fun _ => True) xo_or (· ||| ·) := by
  intro n σ x y q r z hz hq hr hn h0
  refine ⟨trivial, ?_⟩
  show ∃ e, xiG (xup σ n e) (n + 1) (x ||| y).toInt z
  obtain ⟨t, c, l, h⟩ := q
  obtain ⟨u, d, a, b⟩ := r
  obtain ⟨q1, q2, q3, q4⟩ := hq
  obtain ⟨r1, r2, r3, r4⟩ := hr
  simp only at q1 q2 q3 q4 r1 r2 r3 r4
  unfold xo_or at hz
  simp only at hz
  cases ha : (bif zle 0 a then zle 0 l else false) with
  | false =>
    rw [ha] at hz
    cases hz
    exact ⟨_, xtop_ok _⟩
  | true =>
    rw [ha] at hz
    cases hz
    obtain ⟨g1, g2⟩ := x_and ha
    have p1 := zle_le g1
    have p2 := zle_le g2
    obtain ⟨ex, lx⟩ := xnn (x := x) (by omega)
    obtain ⟨ey, ly⟩ := xnn (x := y) (by omega)
    have h3 : (x ||| y).toBitVec.toNat = x.toBitVec.toNat ||| y.toBitVec.toNat := by simp
    have h5 : x.toBitVec.toNat ||| y.toBitVec.toNat < 2 ^ 31 := Nat.or_lt_two_pow (by omega) (by omega)
    have h6 : (x ||| y).toInt = ((x ||| y).toBitVec.toNat : Int) := xnb (by omega)
    have h7 := xor_le x.toBitVec.toNat y.toBitVec.toNat
    have hm1 : zmax h b = max h b := zmax_of h b
    have h8 : max x.toInt y.toInt ≤ 2147483647 := by have := x32_hi x; have := x32_hi y; omega
    refine ⟨_, xfresh (by omega) (zmin_le (by show _ ≤ h + b; omega) ?_)⟩
    rcases (show 2147483647 < zmax h b ∨ zmax h b ≤ 2147483647 by omega) with hb | hb
    · have : xones (zmax h b) = 2147483647 := by
        unfold xones
        have f : ∀ c : Int, c ≤ 65535 → zle (zmax h b) c = false := fun c hc => by
          cases hq : zle (zmax h b) c with
          | true => have := zle_le hq; omega
          | false => rfl
        rw [f 0 (by decide), f 1 (by decide), f 3 (by decide), f 7 (by decide), f 15 (by decide), f 31 (by decide), f 63 (by decide), f 127 (by decide), f 255 (by decide), f 65535 (by decide)]
        rfl
      rw [this]
      exact x32_hi _
    · obtain ⟨o1, k, ok1, ok2⟩ := xones_ok hb
      have hx : x.toBitVec.toNat < 2 ^ k := by omega
      have hy : y.toBitVec.toNat < 2 ^ k := by omega
      have := Nat.or_lt_two_pow hx hy
      omega
def xo_top (n : Nat) (_ _ : xi) : Option xi := some (xtop n)
theorem xo_top_ok (F : Int32 → Int32 → Int32) : xop (fun _ => True) xo_top F := by
  intro n σ x y q r z hz hq hr hn h0
  cases hz
  exact ⟨trivial, _, xtop_ok _⟩
/-- not 0 -/
def xnz (r : xi) : Bool := bif zle 1 r.2.2.1 then true else zle r.2.2.2 (-1)
theorem xnz_ok {σ : Nat → Int} {n : Nat} {y : Int} {r : xi} (h : xnz r = true) (g : xiG σ n y r) : y ≠ 0 := by
  unfold xnz at h
  obtain ⟨-, -, g1, g2⟩ := g
  cases h1 : zle 1 r.2.2.1 with
  | true => have := zle_le h1; omega
  | false =>
    rw [h1] at h
    have := zle_le (show zle r.2.2.2 (-1) = true from h)
    omega
theorem x32_ne {y : Int32} (h : y.toInt ≠ 0) : decide (y = 0) = false := decide_eq_false fun q => h (by rw [q]; rfl)
theorem x64_ne {y : Int64} (h : y.toInt ≠ 0) : decide (y = 0) = false := decide_eq_false fun q => h (by rw [q]; rfl)
def xo_div (n : Nat) (q r : xi) : Option xi := bif xnz r then (match q, r with
  | (_, _, l, h), (_, _, a, b) => bif (bif zle 1 a then zle 0 l else false) then some (n, 0, Int.tdiv l b, Int.tdiv h a) else bif zle 1 a then some (n, 0, zmin l 0, zmax h 0) else some (xtop n)) else none
theorem xdiv_mono {x y h a : Int} (h1 : 0 ≤ x) (h2 : x ≤ h) (h3 : 1 ≤ a) (h4 : a ≤ y) : x.tdiv y ≤ h.tdiv a := by
  rw [Int.tdiv_eq_ediv_of_nonneg h1, Int.tdiv_eq_ediv_of_nonneg (by omega)]
  have h5 : x / y * y ≤ x := Int.ediv_mul_le x (by omega)
  have h6 : 0 ≤ x / y := Int.ediv_nonneg h1 (by omega)
  apply Int.le_ediv_of_mul_le (by omega)
  have h7 : x / y * a ≤ x / y * y := Int.mul_le_mul_of_nonneg_left h4 h6
  omega
theorem xo_div_ok : xop (fun y => y.toInt ≠ 0) xo_div (· / ·) := by
  intro n σ x y q r z hz hq hr hn h0
  unfold xo_div at hz
  cases hnz : xnz r with
  | false => rw [hnz] at hz; cases hz
  | true =>
    rw [hnz] at hz
    refine ⟨xnz_ok hnz hr, ?_⟩
    show ∃ e, xiG (xup σ n e) (n + 1) (x / y).toInt z
    have hy := xnz_ok hnz hr
    obtain ⟨t, c, l, h⟩ := q
    obtain ⟨u, d, a, b⟩ := r
    obtain ⟨q1, q2, q3, q4⟩ := hq
    obtain ⟨r1, r2, r3, r4⟩ := hr
    simp only at q1 q2 q3 q4 r1 r2 r3 r4
    simp only [cond_true] at hz
    have lo := x32_lo x
    have hi := x32_hi x
    cases ha : zle 1 a with
    | false =>
      rw [ha] at hz
      cases hz
      exact ⟨_, xtop_ok _⟩
    | true =>
      rw [ha] at hz
      have p := zle_le ha
      cases hl : zle 0 l with
      | true =>
        rw [hl] at hz
        cases hz
        have p2 := zle_le hl
        have m1 := xdiv_mono (x := x.toInt) (y := y.toInt) (h := h) (a := a) (by omega) q4 p r3
        have m2 := xdiv_mono (x := l) (y := b) (h := x.toInt) (a := y.toInt) p2 q3 (by omega) r4
        have m3 := xdiv_mono (x := x.toInt) (y := y.toInt) (h := x.toInt) (a := 1) (by omega) (Int.le_refl _) (by decide) (by omega)
        have m4 : 0 ≤ x.toInt.tdiv y.toInt := Int.tdiv_nonneg (by omega) (by omega)
        rw [Int.tdiv_one] at m3
        have e : (x / y).toInt = x.toInt.tdiv y.toInt := by rw [Int32.toInt_div, xbm (by omega) (by omega)]
        exact ⟨_, xfresh (by rw [e]; exact m2) (by rw [e]; exact m1)⟩
      | false =>
        rw [hl] at hz
        cases hz
        have hm : zmax h 0 = max h 0 := zmax_of h 0
        have hn2 : zmin l 0 = min l 0 := zmin_of l 0
        rcases (show x.toInt < 0 ∨ 0 ≤ x.toInt by omega) with hx | hx
        · have m1 := xdiv_mono (x := -x.toInt) (y := y.toInt) (h := -x.toInt) (a := 1) (by omega) (Int.le_refl _) (by decide) (by omega)
          have m4 : 0 ≤ (-x.toInt).tdiv y.toInt := Int.tdiv_nonneg (by omega) (by omega)
          rw [Int.tdiv_one] at m1
          rw [Int.neg_tdiv] at m1 m4
          have e : (x / y).toInt = x.toInt.tdiv y.toInt := by rw [Int32.toInt_div, xbm (by omega) (by omega)]
          exact ⟨_, xfresh (by rw [e]; omega) (by rw [e]; omega)⟩
        · have m3 := xdiv_mono (x := x.toInt) (y := y.toInt) (h := x.toInt) (a := 1) (by omega) (Int.le_refl _) (by decide) (by omega)
          have m4 : 0 ≤ x.toInt.tdiv y.toInt := Int.tdiv_nonneg (by omega) (by omega)
          rw [Int.tdiv_one] at m3
          have e : (x / y).toInt = x.toInt.tdiv y.toInt := by rw [Int32.toInt_div, xbm (by omega) (by omega)]
          exact ⟨_, xfresh (by rw [e]; omega) (by rw [e]; omega)⟩
def xo_rem (n : Nat) (q r : xi) : Option xi := bif xnz r then (match q, r with
  | (_, _, l, h), (_, _, a, b) => bif zle 1 a then (bif zle 0 l then some (n, 0, 0, zmin h (Int.sub b 1)) else some (n, 0, Int.sub 1 b, Int.sub b 1)) else some (xtop n)) else none
theorem xrem_val {x y : Int32} (h : 1 ≤ y.toInt) : (x - x / y * y).toInt = x.toInt.tmod y.toInt := by
  have lo := x32_lo x
  have hi := x32_hi x
  have key : -2147483648 ≤ x.toInt.tdiv y.toInt ∧ x.toInt.tdiv y.toInt ≤ 2147483647 := by
    rcases (show x.toInt < 0 ∨ 0 ≤ x.toInt by omega) with hx | hx
    · have m1 := xdiv_mono (x := -x.toInt) (y := y.toInt) (h := -x.toInt) (a := 1) (by omega) (Int.le_refl _) (by decide) (by omega)
      have m4 : 0 ≤ (-x.toInt).tdiv y.toInt := Int.tdiv_nonneg (by omega) (by omega)
      rw [Int.tdiv_one] at m1
      rw [Int.neg_tdiv] at m1 m4
      omega
    · have m3 := xdiv_mono (x := x.toInt) (y := y.toInt) (h := x.toInt) (a := 1) (by omega) (Int.le_refl _) (by decide) (by omega)
      have m4 : 0 ≤ x.toInt.tdiv y.toInt := Int.tdiv_nonneg (by omega) (by omega)
      rw [Int.tdiv_one] at m3
      omega
  have e1 : (x / y).toInt = x.toInt.tdiv y.toInt := by rw [Int32.toInt_div, xbm key.1 key.2]
  have h2 := Int.mul_tdiv_add_tmod x.toInt y.toInt
  have h3 : y.toInt * x.toInt.tdiv y.toInt = x.toInt.tdiv y.toInt * y.toInt := Int.mul_comm _ _
  have h4 : -2147483648 ≤ x.toInt.tmod y.toInt ∧ x.toInt.tmod y.toInt ≤ 2147483647 := by
    have := x32_hi y
    have h5 := Int.tmod_lt_of_pos x.toInt (show 0 < y.toInt by omega)
    have h6 := Int.lt_tmod_of_pos x.toInt (show 0 < y.toInt by omega)
    omega
  rw [Int32.toInt_sub, Int32.toInt_mul, e1]
  rw [Int.sub_bmod_bmod]
  rw [show x.toInt - x.toInt.tdiv y.toInt * y.toInt = x.toInt.tmod y.toInt by omega]
  exact xbm h4.1 h4.2
theorem xo_rem_ok : xop (fun y => y.toInt ≠ 0) xo_rem (fun x y => x - x / y * y) := by
  intro n σ x y q r z hz hq hr hn h0
  unfold xo_rem at hz
  cases hnz : xnz r with
  | false => rw [hnz] at hz; cases hz
  | true =>
    rw [hnz] at hz
    refine ⟨xnz_ok hnz hr, ?_⟩
    show ∃ e, xiG (xup σ n e) (n + 1) (x - x / y * y).toInt z
    obtain ⟨t, c, l, h⟩ := q
    obtain ⟨u, d, a, b⟩ := r
    obtain ⟨q1, q2, q3, q4⟩ := hq
    obtain ⟨r1, r2, r3, r4⟩ := hr
    simp only at q1 q2 q3 q4 r1 r2 r3 r4
    simp only [cond_true] at hz
    cases ha : zle 1 a with
    | false =>
      rw [ha] at hz
      cases hz
      exact ⟨_, xtop_ok _⟩
    | true =>
      rw [ha] at hz
      have p := zle_le ha
      have e := xrem_val (x := x) (y := y) (by omega)
      have h5 := Int.tmod_lt_of_pos x.toInt (show 0 < y.toInt by omega)
      have h6 := Int.lt_tmod_of_pos x.toInt (show 0 < y.toInt by omega)
      have e3 : Int.sub b 1 = b - 1 := rfl
      have e4 : Int.sub 1 b = 1 - b := rfl
      cases hl : zle 0 l with
      | true =>
        rw [hl] at hz
        cases hz
        have p2 := zle_le hl
        have h7 : 0 ≤ x.toInt.tmod y.toInt := Int.tmod_nonneg _ (by omega)
        have h8 : x.toInt.tmod y.toInt ≤ x.toInt := by
          have k1 := Int.mul_tdiv_add_tmod x.toInt y.toInt
          have k2 : 0 ≤ y.toInt * x.toInt.tdiv y.toInt := Int.mul_nonneg (by omega) (Int.tdiv_nonneg (by omega) (by omega))
          omega
        exact ⟨_, xfresh (by rw [e]; exact h7) (by rw [e]; exact zmin_le (by omega) (by omega))⟩
      | false =>
        rw [hl] at hz
        cases hz
        exact ⟨_, xfresh (by rw [e]; omega) (by rw [e]; omega)⟩
theorem xshl_k : ∀ k, k < 31 → (((Int32.ofNat k) &&& 31).toBitVec.smod 32).toNat = k := by decide
theorem x32_ofN (y : Int32) : Int32.ofNat y.toBitVec.toNat = y := by
  apply Int32.toBitVec_inj.mp
  apply BitVec.eq_of_toNat_eq
  have := y.toBitVec.isLt
  simp
theorem xshl_val {x y : Int32} (hx : 0 ≤ x.toInt) (hy : 0 ≤ y.toInt) (hy2 : y.toInt ≤ 30) (hv : x.toInt * ((2 ^ y.toInt.toNat : Nat) : Int) ≤ 2147483647) : (x <<< (y &&& 31)).toInt = x.toInt * ((2 ^ y.toInt.toNat : Nat) : Int) := by
  obtain ⟨ex, lx⟩ := xnn hx
  obtain ⟨ey, ly⟩ := xnn hy
  have e1 : y.toInt.toNat = y.toBitVec.toNat := by omega
  have hk : ((y &&& 31).toBitVec.smod 32).toNat = y.toBitVec.toNat := by
    have := xshl_k y.toBitVec.toNat (by omega)
    rw [x32_ofN] at this
    exact this
  rw [e1] at hv ⊢
  have e2 : (x <<< (y &&& 31)).toBitVec = x.toBitVec <<< ((y &&& 31).toBitVec.smod 32) := Int32.toBitVec_shiftLeft x (y &&& 31)
  have e3 : (x <<< (y &&& 31)).toBitVec.toNat = x.toBitVec.toNat * 2 ^ y.toBitVec.toNat % 2 ^ 32 := by
    rw [e2]
    show (x.toBitVec <<< ((y &&& 31).toBitVec.smod 32).toNat).toNat = _
    rw [BitVec.toNat_shiftLeft, hk, Nat.shiftLeft_eq]
  rw [ex] at hv ⊢
  have hv2 : x.toBitVec.toNat * 2 ^ y.toBitVec.toNat ≤ 2147483647 := by
    have h9 : ((x.toBitVec.toNat * 2 ^ y.toBitVec.toNat : Nat) : Int) ≤ 2147483647 := by
      rw [Int.natCast_mul]
      exact hv
    omega
  have e4 : x.toBitVec.toNat * 2 ^ y.toBitVec.toNat % 2 ^ 32 = x.toBitVec.toNat * 2 ^ y.toBitVec.toNat := Nat.mod_eq_of_lt (by omega)
  rw [e4] at e3
  rw [xnb (by omega), e3, Int.natCast_mul]
def xo_shl (n : Nat) (q r : xi) : Option xi := match q, r with
  | (_, _, l, h), (_, _, a, b) => bif (bif zle 0 l then bif zle 0 a then bif zle b 30 then zle (Int.mul h (Int.ofNat (Nat.pow 2 b.toNat))) 2147483647 else false else false else false) then some (n, 0, Int.mul l (Int.ofNat (Nat.pow 2 a.toNat)), Int.mul h (Int.ofNat (Nat.pow 2 b.toNat))) else some (xtop n)
theorem xo_shl_ok : xop (fun _ => True) xo_shl (fun x y => x <<< (y &&& 31)) := by
  intro n σ x y q r z hz hq hr hn h0
  refine ⟨trivial, ?_⟩
  show ∃ e, xiG (xup σ n e) (n + 1) (x <<< (y &&& 31)).toInt z
  obtain ⟨t, c, l, h⟩ := q
  obtain ⟨u, d, a, b⟩ := r
  obtain ⟨q1, q2, q3, q4⟩ := hq
  obtain ⟨r1, r2, r3, r4⟩ := hr
  simp only at q1 q2 q3 q4 r1 r2 r3 r4
  unfold xo_shl at hz
  simp only at hz
  cases hf : (bif zle 0 l then bif zle 0 a then bif zle b 30 then zle (Int.mul h (Int.ofNat (Nat.pow 2 b.toNat))) 2147483647 else false else false else false) with
  | false => rw [hf] at hz; cases hz; exact ⟨_, xtop_ok _⟩
  | true =>
    rw [hf] at hz
    cases hz
    obtain ⟨g1, g⟩ := x_and hf
    obtain ⟨g2, g⟩ := x_and g
    obtain ⟨g3, g4⟩ := x_and g
    have p1 := zle_le g1
    have p2 := zle_le g2
    have p3 := zle_le g3
    have p4 : h * ((2 ^ b.toNat : Nat) : Int) ≤ 2147483647 := zle_le g4
    have m1 : (2 : Nat) ^ y.toInt.toNat ≤ 2 ^ b.toNat := Nat.pow_le_pow_right (by decide) (by omega)
    have m2 : (2 : Nat) ^ a.toNat ≤ 2 ^ y.toInt.toNat := Nat.pow_le_pow_right (by decide) (by omega)
    have b2 : x.toInt * ((2 ^ y.toInt.toNat : Nat) : Int) ≤ h * ((2 ^ b.toNat : Nat) : Int) := Int.mul_le_mul q4 (by omega) (Int.natCast_nonneg _) (by omega)
    have b1 : l * ((2 ^ a.toNat : Nat) : Int) ≤ x.toInt * ((2 ^ y.toInt.toNat : Nat) : Int) := Int.mul_le_mul q3 (by omega) (Int.natCast_nonneg _) (by omega)
    have e := xshl_val (x := x) (y := y) (by omega) (by omega) (by omega) (by omega)
    exact ⟨_, xfresh (by rw [e]; exact b1) (by rw [e]; exact b2)⟩
def xo_shr (n : Nat) (q r : xi) : Option xi := bif (bif zle 0 r.2.2.1 then zle r.2.2.2 0 else false) then some q else some (xtop n)
theorem xo_shr_ok : xop (fun _ => True) xo_shr (fun x y => x >>> (y &&& 31)) := by
  intro n σ x y q r z hz hq hr hn h0
  refine ⟨trivial, ?_⟩
  show ∃ e, xiG (xup σ n e) (n + 1) (x >>> (y &&& 31)).toInt z
  unfold xo_shr at hz
  cases hf : (bif zle 0 r.2.2.1 then zle r.2.2.2 0 else false) with
  | false => rw [hf] at hz; cases hz; exact ⟨_, xtop_ok _⟩
  | true =>
    rw [hf] at hz
    cases hz
    obtain ⟨f1, f2⟩ := x_and hf
    have p1 := zle_le f1
    have p2 := zle_le f2
    have hy : y.toInt = 0 := by have := hr.2.2.1; have := hr.2.2.2; omega
    have : y = 0 := Int32.toInt_inj.mp hy
    subst this
    have e : x >>> ((0 : Int32) &&& 31) = x := by
      apply Int32.toBitVec_inj.mp
      simp
    rw [e]
    exact ⟨0, xiG_up (fun t ht => xup_lt ht) (Nat.le_succ n) hq⟩
/-! an instruction on the stack -/
def xaok (X : xD) (ins : Instr) (f : Nat → List xv → Option (List xv)) : Prop := ∀ (m : Int) (n : Nat) (σ : Nat → Int) (sv : List Value) (s s' : List xv), m ≤ 2147483646 → f n s = some s' → 0 < n → σ 0 = 0 → xsG X m σ n sv s → ∃ sv' σ', pm_alu ins sv = some sv' ∧ (∀ t, t < n → σ' t = σ t) ∧ xsG X m σ' (n + 3) sv' s'
def xn (n : Nat) (q : xv) : Option xi := match q with
  | .inl q => some q
  | .inr (.inl _) => none
  | .inr (.inr (.inl _)) => none
  | .inr (.inr (.inr (.inl _))) => some (n, 0, 0, 2147483647)
  | .inr (.inr (.inr (.inr _))) => some (n, 0, -2147483648, 2147483647)
theorem xn_ok {X : xD} {m : Int} {σ : Nat → Int} {n t : Nat} {v : Value} {q : xv} {z : xi} (hm : m ≤ 2147483646) (h : xn n q = some z) (g : xvG X m σ t v q) (ht : t ≤ n) : ∃ (x : Int32) (e : Int), v = .int x ∧ xiG (xup σ n e) (n + 1) x.toInt z := by
  match q, g, h with
  | .inl q, ⟨x, e, g⟩, h =>
    cases h
    exact ⟨x, 0, e, xiG_up (fun u hu => xup_lt (Nat.lt_of_lt_of_le hu ht)) (Nat.le_succ_of_le ht) g⟩
  | .inr (.inr (.inr (.inl k))), ⟨x, e, g1, g2⟩, h =>
    cases h
    exact ⟨x, _, e, xfresh g1 (by omega)⟩
  | .inr (.inr (.inr (.inr p))), ⟨x, y, e, g1, g2⟩, h =>
    cases h
    exact ⟨_, _, e, xtop_ok _⟩
def xa2 (op : Nat → xi → xi → Option xi) (n : Nat) (s : List xv) : Option (List xv) := match s with
  | y :: x :: r => (match xn n x, xn (n + 1) y with
    | some x', some y' => (match op (n + 2) x' y' with
      | some z => some (.inl z :: r)
      | none => none)
    | _, _ => none)
  | _ => none
theorem xa2_ok {X : xD} {ins : Instr} {P : Int32 → Prop} {op : Nat → xi → xi → Option xi} {F : Int32 → Int32 → Int32} (ho : xop P op F) (hi : ∀ x y r, P y → pm_alu ins (.int y :: .int x :: r) = some (.int (F x y) :: r)) : xaok X ins (xa2 op) := by
  intro m n σ sv s s' hm h hn h0 g
  unfold xa2 at h
  split at h
  · next y x r =>
    split at h
    · next x' y' hx hy =>
      split at h
      · next z hz =>
        cases h
        match sv, g with
        | v2 :: v1 :: q, ⟨g2, g1, g3⟩ =>
          obtain ⟨a, e1, rfl, ga⟩ := xn_ok hm hx g1 (Nat.le_refl _)
          have u1 : ∀ t, t < n → xup σ n e1 t = σ t := fun t ht => xup_lt ht
          obtain ⟨b, e2, rfl, gb⟩ := xn_ok hm hy (xvG_up u1 (Nat.le_succ n) g2) (Nat.le_refl _)
          have u2 : ∀ t, t < n + 1 → xup (xup σ n e1) (n + 1) e2 t = xup σ n e1 t := fun t ht => xup_lt ht
          have ga2 := xiG_up u2 (Nat.le_succ (n + 1)) ga
          obtain ⟨hP, e3, gz⟩ := ho (n + 2) _ a b x' y' z hz ga2 gb (by omega) (by rw [u2 0 (by omega), u1 0 hn]; exact h0)
          have u3 : ∀ t, t < n → xup (xup (xup σ n e1) (n + 1) e2) (n + 2) e3 t = σ t := fun t ht => by rw [xup_lt (by omega), xup_lt (by omega), xup_lt ht]
          exact ⟨_, _, hi a b q hP, u3, ⟨_, rfl, gz⟩, xsG_up u3 (by omega) g3⟩
        | [], g => exact g.elim
        | [_], g => exact g.2.elim
      · cases h
    · cases h
  · cases h
/-- + 1 of an hour -/
def xa_add (n : Nat) (s : List xv) : Option (List xv) := match s with
  | .inl (t, c, l, h) :: .inr (.inr (.inr (.inl k))) :: r => bif (bif zle 1 l then bif zle h 1 then Nat.ble 1 k else false else false) then some (.inr (.inr (.inr (.inl (k - 1)))) :: r) else xa2 xo_add n s
  | _ => xa2 xo_add n s
theorem xa_add_ok {X : xD} : xaok X .iadd xa_add := by
  intro m n σ sv s s' hm h hn h0 g
  have gen : xa2 xo_add n s = some s' → _ := fun h => xa2_ok (X := X) (ins := .iadd) xo_add_ok (fun _ _ _ _ => rfl) m n σ sv s s' hm h hn h0 g
  unfold xa_add at h
  split at h
  · next t c l h9 k r =>
    cases hf : (bif zle 1 l then bif zle h9 1 then Nat.ble 1 k else false else false) with
    | false => rw [hf] at h; exact gen h
    | true =>
      rw [hf] at h
      cases h
      obtain ⟨f1, f⟩ := x_and hf
      obtain ⟨f2, f3⟩ := x_and f
      have p1 := zle_le f1
      have p2 := zle_le f2
      have p3 := Nat.le_of_ble_eq_true f3
      match sv, g with
      | v2 :: v1 :: q, ⟨⟨b, e2, g2⟩, ⟨a, e1, g1, g1'⟩, g3⟩ =>
        subst e1 e2
        have hb : b.toInt = 1 := by have := g2.2.2.1; have := g2.2.2.2; simp only at *; omega
        refine ⟨.int (a + b) :: q, σ, rfl, fun _ _ => rfl, ⟨a + b, rfl, ?_⟩, xsG_up (fun _ _ => rfl) (by omega) g3⟩
        have e : (a + b).toInt = a.toInt + 1 := by rw [Int32.toInt_add, hb, xbm (by omega) (by omega)]
        rw [e]
        omega
  · exact gen h
def xa1 (n : Nat) (s : List xv) : Option (List xv) := match s with
  | x :: r => (match xn n x with
    | some _ => some (.inl (xtop (n + 1)) :: r)
    | none => none)
  | _ => none
theorem xa1_ok {X : xD} {ins : Instr} {F : Int32 → Int32} (hi : ∀ x r, pm_alu ins (.int x :: r) = some (.int (F x) :: r)) : xaok X ins xa1 := by
  intro m n σ sv s s' hm h hn h0 g
  unfold xa1 at h
  split at h
  · next x r =>
    split at h
    · next x' hx =>
      cases h
      match sv, g with
      | v1 :: q, ⟨g1, g3⟩ =>
        obtain ⟨a, e1, rfl, ga⟩ := xn_ok hm hx g1 (Nat.le_refl _)
        have u3 : ∀ t, t < n → xup (xup σ n e1) (n + 1) (F a).toInt t = σ t := fun t ht => by rw [xup_lt (by omega), xup_lt ht]
        exact ⟨_, _, hi a q, u3, ⟨_, rfl, xiG_up (n := n + 2) (fun _ _ => rfl) (by omega) (xtop_ok _)⟩, xsG_up u3 (by omega) g3⟩
    · cases h
  · cases h
/-- negated -/
def xa_neg (n : Nat) (s : List xv) : Option (List xv) := match s with
  | .inl (_, _, l, h) :: r => bif xfits (Int.neg h) (Int.neg l) then some (.inl (n, 0, Int.neg h, Int.neg l) :: r) else some (.inl (xtop n) :: r)
  | _ => none
theorem xa_neg_ok {X : xD} : xaok X .ineg xa_neg := by
  intro m n σ sv s s' hm h hn h0 g
  unfold xa_neg at h
  split at h
  · next t c l h9 r =>
    match sv, g with
    | v1 :: q, ⟨⟨a, e1, g1⟩, g3⟩ =>
      subst e1
      obtain ⟨k1, k2, k3, k4⟩ := g1
      simp only at k1 k2 k3 k4
      have u3 : ∀ e, ∀ t, t < n → xup σ n e t = σ t := fun e t ht => xup_lt ht
      have fin : ∀ z, xiG (xup σ n (-a).toInt) (n + 1) (-a).toInt z → s' = .inl z :: r → ∃ sv' σ', pm_alu .ineg (.int a :: q) = some sv' ∧ (∀ t, t < n → σ' t = σ t) ∧ xsG X m σ' (n + 3) sv' s' := fun z hz hs => ⟨.int (-a) :: q, xup σ n (-a).toInt, rfl, u3 _, by rw [hs]; exact ⟨⟨-a, rfl, xiG_up (fun _ _ => rfl) (by omega) hz⟩, xsG_up (u3 _) (by omega) g3⟩⟩
      cases hf : xfits (Int.neg h9) (Int.neg l) with
      | false => rw [hf] at h; exact fin _ (xtop_ok _) (Option.some.inj h).symm
      | true =>
        rw [hf] at h
        have b1 : Int.neg h9 ≤ -a.toInt := by show -h9 ≤ _; omega
        have b2 : -a.toInt ≤ Int.neg l := by show _ ≤ -l; omega
        obtain ⟨f1, f2⟩ := xfits_ok hf b1 b2
        have e : (-a).toInt = -a.toInt := by rw [Int32.toInt_neg, xbm f1 f2]
        exact fin _ (xfresh (by rw [e]; exact b1) (by rw [e]; exact b2)) (Option.some.inj h).symm
  · cases h
/-! longs -/
def xaL2 (n : Nat) (s : List xv) : Option (List xv) := match s with
  | .inr (.inl _) :: .inr (.inl _) :: r => some (.inr (.inl (xtopL n)) :: r)
  | _ => none
theorem xaL2_ok {X : xD} {ins : Instr} {F : Int64 → Int64 → Int64} (hi : ∀ x y r, pm_alu ins (.long y :: .long x :: r) = some (.long (F x y) :: r)) : xaok X ins xaL2 := by
  intro m n σ sv s s' hm h hn h0 g
  unfold xaL2 at h
  split at h
  · cases h
    match sv, g with
    | v2 :: v1 :: q, ⟨⟨b, e2, g2⟩, ⟨a, e1, g1⟩, g3⟩ =>
      subst e1 e2
      have u3 : ∀ t, t < n → xup σ n (F a b).toInt t = σ t := fun t ht => xup_lt ht
      exact ⟨_, _, hi a b q, u3, ⟨_, rfl, xiG_up (n := n + 1) (fun _ _ => rfl) (by omega) (xtopL_ok _)⟩, xsG_up u3 (by omega) g3⟩
  · cases h
theorem xbmL {v : Int} (h1 : -9223372036854775808 ≤ v) (h2 : v ≤ 9223372036854775807) : v.bmod (2 ^ 64) = v := Int.bmod_eq_of_le (by omega) (by omega)
def xaLm (n : Nat) (s : List xv) : Option (List xv) := match s with
  | .inr (.inl y) :: .inr (.inl x) :: r => some (.inr (.inl (bif (bif zle 0 x.2.2.1 then bif zle 0 y.2.2.1 then zle (Int.mul x.2.2.2 y.2.2.2) 9223372036854775807 else false else false) then (n, 0, Int.mul x.2.2.1 y.2.2.1, Int.mul x.2.2.2 y.2.2.2) else xtopL n)) :: r)
  | _ => none
theorem xaLm_ok {X : xD} : xaok X .lmul xaLm := by
  intro m n σ sv s s' hm h hn h0 g
  unfold xaLm at h
  split at h
  · next y x r =>
    cases h
    match sv, g with
    | v2 :: v1 :: q, ⟨⟨b, e2, g2⟩, ⟨a, e1, g1⟩, g3⟩ =>
      subst e1 e2
      have u3 : ∀ t, t < n → xup σ n (a * b).toInt t = σ t := fun t ht => xup_lt ht
      refine ⟨.long (a * b) :: q, _, rfl, u3, ⟨_, rfl, ?_⟩, xsG_up u3 (by omega) g3⟩
      cases hf : (bif zle 0 x.2.2.1 then bif zle 0 y.2.2.1 then zle (Int.mul x.2.2.2 y.2.2.2) 9223372036854775807 else false else false) with
      | false => exact xiG_up (n := n + 1) (fun _ _ => rfl) (by omega) (xtopL_ok _)
      | true =>
        obtain ⟨f1, f⟩ := x_and hf
        obtain ⟨f2, f3⟩ := x_and f
        have p1 := zle_le f1
        have p2 := zle_le f2
        have p3 : x.2.2.2 * y.2.2.2 ≤ 9223372036854775807 := zle_le f3
        obtain ⟨-, -, a1, a2⟩ := g1
        obtain ⟨-, -, b1, b2⟩ := g2
        have k1 : x.2.2.1 * y.2.2.1 ≤ a.toInt * b.toInt := Int.mul_le_mul a1 b1 p2 (by omega)
        have k2 : a.toInt * b.toInt ≤ x.2.2.2 * y.2.2.2 := Int.mul_le_mul a2 b2 (by omega) (by omega)
        have k3 : 0 ≤ x.2.2.1 * y.2.2.1 := Int.mul_nonneg p1 p2
        have e : (a * b).toInt = a.toInt * b.toInt := by rw [Int64.toInt_mul, xbmL (by omega) (by omega)]
        exact xiG_up (n := n + 1) (fun _ _ => rfl) (by omega) (xfresh (by rw [e]; exact k1) (by rw [e]; exact k2))
  · cases h
def xaLd (n : Nat) (s : List xv) : Option (List xv) := match s with
  | .inr (.inl y) :: .inr (.inl _) :: r => bif xnz y then some (.inr (.inl (xtopL n)) :: r) else none
  | _ => none
theorem xaLd_ok {X : xD} {ins : Instr} {F : Int64 → Int64 → Int64} (hi : ∀ x y r, y.toInt ≠ 0 → pm_alu ins (.long y :: .long x :: r) = some (.long (F x y) :: r)) : xaok X ins xaLd := by
  intro m n σ sv s s' hm h hn h0 g
  unfold xaLd at h
  split at h
  · next y x r =>
    obtain ⟨hz, h⟩ := x_bs h
    subst h
    match sv, g with
    | v2 :: v1 :: q, ⟨⟨b, e2, g2⟩, ⟨a, e1, g1⟩, g3⟩ =>
      subst e1 e2
      have u3 : ∀ t, t < n → xup σ n (F a b).toInt t = σ t := fun t ht => xup_lt ht
      exact ⟨_, _, hi a b q (xnz_ok hz g2), u3, ⟨_, rfl, xiG_up (n := n + 1) (fun _ _ => rfl) (by omega) (xtopL_ok _)⟩, xsG_up u3 (by omega) g3⟩
  · cases h
def xaLs (n : Nat) (s : List xv) : Option (List xv) := match s with
  | y :: .inr (.inl _) :: r => (match xn n y with
    | some _ => some (.inr (.inl (xtopL (n + 1))) :: r)
    | none => none)
  | _ => none
theorem xaLs_ok {X : xD} {ins : Instr} {F : Int64 → Int32 → Int64} (hi : ∀ x y r, pm_alu ins (.int y :: .long x :: r) = some (.long (F x y) :: r)) : xaok X ins xaLs := by
  intro m n σ sv s s' hm h hn h0 g
  unfold xaLs at h
  split at h
  · next y x r =>
    split at h
    · next y' hy =>
      cases h
      match sv, g with
      | v2 :: v1 :: q, ⟨g2, ⟨a, e1, g1⟩, g3⟩ =>
        subst e1
        obtain ⟨b, e2, rfl, gb⟩ := xn_ok hm hy g2 (Nat.le_refl _)
        have u3 : ∀ t, t < n → xup (xup σ n e2) (n + 1) (F a b).toInt t = σ t := fun t ht => by rw [xup_lt (by omega), xup_lt ht]
        exact ⟨_, _, hi a b q, u3, ⟨_, rfl, xiG_up (n := n + 2) (fun _ _ => rfl) (by omega) (xtopL_ok _)⟩, xsG_up u3 (by omega) g3⟩
    · cases h
  · cases h
def xa_cmp (_ : Nat) (s : List xv) : Option (List xv) := match s with
  | .inr (.inl y) :: .inr (.inl x) :: r => some (.inr (.inr (.inr (.inr (x, y)))) :: r)
  | _ => none
theorem xa_cmp_ok {X : xD} : xaok X .lcmp xa_cmp := by
  intro m n σ sv s s' hm h hn h0 g
  unfold xa_cmp at h
  split at h
  · cases h
    match sv, g with
    | v2 :: v1 :: q, ⟨⟨b, e2, g2⟩, ⟨a, e1, g1⟩, g3⟩ =>
      subst e1 e2
      have u : ∀ t, t < n → σ t = σ t := fun _ _ => rfl
      exact ⟨_, σ, rfl, u, ⟨a, b, rfl, xiG_up u (by omega) g1, xiG_up u (by omega) g2⟩, xsG_up u (by omega) g3⟩
  · cases h
def xa_i2l (n : Nat) (s : List xv) : Option (List xv) := match s with
  | x :: r => (match xn n x with
    | some q => some (.inr (.inl q) :: r)
    | none => none)
  | _ => none
theorem xa_i2l_ok {X : xD} : xaok X .i2l xa_i2l := by
  intro m n σ sv s s' hm h hn h0 g
  unfold xa_i2l at h
  split at h
  · next x r =>
    split at h
    · next x' hx =>
      cases h
      match sv, g with
      | v1 :: q, ⟨g1, g3⟩ =>
        obtain ⟨a, e1, rfl, ga⟩ := xn_ok hm hx g1 (Nat.le_refl _)
        have u3 : ∀ t, t < n → xup σ n e1 t = σ t := fun t ht => xup_lt ht
        exact ⟨_, _, rfl, u3, ⟨_, rfl, by rw [Int32.toInt_toInt64]; exact xiG_up (n := n + 1) (fun _ _ => rfl) (by omega) ga⟩, xsG_up u3 (by omega) g3⟩
    · cases h
  · cases h
def xa_l2i (n : Nat) (s : List xv) : Option (List xv) := match s with
  | .inr (.inl _) :: r => some (.inl (xtop n) :: r)
  | _ => none
theorem xa_l2i_ok {X : xD} : xaok X .l2i xa_l2i := by
  intro m n σ sv s s' hm h hn h0 g
  unfold xa_l2i at h
  split at h
  · cases h
    match sv, g with
    | v1 :: q, ⟨⟨a, e1, g1⟩, g3⟩ =>
      subst e1
      have u3 : ∀ t, t < n → xup σ n a.toInt32.toInt t = σ t := fun t ht => xup_lt ht
      exact ⟨_, _, rfl, u3, ⟨_, rfl, xiG_up (n := n + 1) (fun _ _ => rfl) (by omega) (xtop_ok _)⟩, xsG_up u3 (by omega) g3⟩
  · cases h
/-! the stack's own instructions -/
def xcat (q : xv) : Nat := match q with
  | .inr (.inl _) => 2
  | _ => 1
theorem xcat_ok {X : xD} {m : Int} {σ : Nat → Int} {n : Nat} {v : Value} {q : xv} (g : xvG X m σ n v q) : v.category = xcat q := by
  match q, g with
  | .inl q, ⟨x, e, g⟩ => subst e; rfl
  | .inr (.inl q), ⟨x, e, g⟩ => subst e; rfl
  | .inr (.inr (.inl u)), ⟨a, i, e, g⟩ => subst e; rfl
  | .inr (.inr (.inr (.inl k))), ⟨x, e, g⟩ => subst e; rfl
  | .inr (.inr (.inr (.inr p))), ⟨x, y, e, g⟩ => subst e; rfl
def xa_dup (_ : Nat) (s : List xv) : Option (List xv) := match s with
  | v :: r => bif Nat.beq (xcat v) 1 then some (v :: v :: r) else none
  | _ => none
theorem xa_dup_ok {X : xD} : xaok X .dup xa_dup := by
  intro m n σ sv s s' hm h hn h0 g
  have u : ∀ t, t < n → σ t = σ t := fun _ _ => rfl
  unfold xa_dup at h
  split at h
  · obtain ⟨hc, h⟩ := x_bs h
    subst h
    match sv, g with
    | v1 :: q, ⟨g1, g3⟩ =>
      refine ⟨v1 :: v1 :: q, σ, ?_, u, xvG_up u (by omega) g1, xvG_up u (by omega) g1, xsG_up u (by omega) g3⟩
      show (bif Nat.beq v1.category 1 then some (v1 :: v1 :: q) else none) = _
      rw [xcat_ok g1, hc]
      rfl
  · cases h
def xa_pop (_ : Nat) (s : List xv) : Option (List xv) := match s with
  | v :: r => bif Nat.beq (xcat v) 1 then some r else none
  | _ => none
theorem xa_pop_ok {X : xD} : xaok X .pop xa_pop := by
  intro m n σ sv s s' hm h hn h0 g
  have u : ∀ t, t < n → σ t = σ t := fun _ _ => rfl
  unfold xa_pop at h
  split at h
  · obtain ⟨hc, h⟩ := x_bs h
    subst h
    match sv, g with
    | v1 :: q, ⟨g1, g3⟩ =>
      refine ⟨q, σ, ?_, u, xsG_up u (by omega) g3⟩
      show (bif Nat.beq v1.category 1 then some q else none) = _
      rw [xcat_ok g1, hc]
      rfl
  · cases h
def xa_pop2 (_ : Nat) (s : List xv) : Option (List xv) := match s with
  | .inr (.inl _) :: r => some r
  | _ => none
theorem xa_pop2_ok {X : xD} : xaok X .pop2 xa_pop2 := by
  intro m n σ sv s s' hm h hn h0 g
  have u : ∀ t, t < n → σ t = σ t := fun _ _ => rfl
  unfold xa_pop2 at h
  split at h
  · cases h
    match sv, g with
    | v1 :: q, ⟨⟨a, e1, g1⟩, g3⟩ =>
      subst e1
      exact ⟨q, σ, rfl, u, xsG_up u (by omega) g3⟩
  · cases h
def xa_dup2 (_ : Nat) (s : List xv) : Option (List xv) := match s with
  | .inr (.inl x) :: r => some (.inr (.inl x) :: .inr (.inl x) :: r)
  | v :: w :: r => bif (bif Nat.beq (xcat v) 1 then Nat.beq (xcat w) 1 else false) then some (v :: w :: v :: w :: r) else none
  | _ => none
theorem xa_dup2_ok {X : xD} : xaok X .dup2 xa_dup2 := by
  intro m n σ sv s s' hm h hn h0 g
  have u : ∀ t, t < n → σ t = σ t := fun _ _ => rfl
  unfold xa_dup2 at h
  split at h
  · cases h
    match sv, g with
    | v1 :: q, ⟨⟨a, e1, g1⟩, g3⟩ =>
      subst e1
      have g9 := xiG_up u (show n ≤ n + 3 by omega) g1
      exact ⟨_, σ, rfl, u, ⟨a, rfl, g9⟩, ⟨a, rfl, g9⟩, xsG_up u (by omega) g3⟩
  · obtain ⟨hc, h⟩ := x_bs h
    obtain ⟨c1, c2⟩ := x_and hc
    subst h
    match sv, g with
    | v1 :: v2 :: q, ⟨g1, g2, g3⟩ =>
      refine ⟨v1 :: v2 :: v1 :: v2 :: q, σ, ?_, u, xvG_up u (by omega) g1, xvG_up u (by omega) g2, xvG_up u (by omega) g1, xvG_up u (by omega) g2, xsG_up u (by omega) g3⟩
      have d1 := xcat_ok g1
      have d2 := xcat_ok g2
      rw [Nat.eq_of_beq_eq_true c1] at d1
      rw [Nat.eq_of_beq_eq_true c2] at d2
      show (bif Nat.beq v1.category 2 then some (v1 :: v1 :: v2 :: q) else bif Nat.beq v1.category 1 && Nat.beq v2.category 1 then some (v1 :: v2 :: v1 :: v2 :: q) else none) = _
      rw [d1, d2]
      rfl
    | [_], g => exact g.2.elim
  · cases h
