/-! X: blocks: arrays -/
abbrev xar : Type := Nat × Option Nat × Nat × Nat × Nat × List (Nat × xe) × Nat
def xarr (X : xD) (u : Nat) : Option xar := match x1k X u with
  | some i => (match X.2.1 i with
    | some (s, .inl (kd, n, p, sg, v)) => some (i, s, kd, n, p, sg, v)
    | _ => none)
  | none => none
theorem xarr_ok {X : xD} {K : pm_K} {m : Int} {w u i kd n p v a j : Nat} {s : Option Nat} {sg : List (Nat × xe)} {ph : pm_H} (h : xarr X u = some (i, s, kd, n, p, sg, v)) (hP : xH X K m w ph) (ho : X.1 a = some j) (hj : j ∈ X.2.2 u) : X.1 a = some i ∧ X.2.1 i = some (s, .inl (kd, n, p, sg, v)) ∧ (∀ b, s = some b → a = b) ∧ xcG X K m w ph a (.inl (kd, n, p, sg, v)) := by
  unfold xarr at h
  split at h
  · next i2 hi =>
    split at h
    · next s2 kd2 n2 p2 sg2 v2 hct =>
      cases h
      have := x1k_ok hi hj
      subst this
      obtain ⟨s3, t3, h1, h2, h3⟩ := hP a _ ho
      rw [hct] at h1
      cases h1
      exact ⟨ho, hct, h2, h3⟩
    · cases h
  · cases h
def xidx (q : xi) (n : Nat) : Bool := bif zle 0 q.2.2.1 then zle (Int.add q.2.2.2 1) (Int.ofNat n) else false
theorem xidx_ok {σ : Nat → Int} {n t : Nat} {x : Int} {q : xi} (h : xidx q n = true) (g : xiG σ t x q) : 0 ≤ x ∧ x.toNat < n ∧ x = (x.toNat : Int) := by
  obtain ⟨h1, h2⟩ := x_and h
  have := zle_le h1
  have h3 : q.2.2.2 + 1 ≤ (n : Int) := zle_le h2
  obtain ⟨-, -, a, b⟩ := g
  omega
theorem xix_eq {α : Type} {l : List α} {i : Int32} (h : 0 ≤ i.toInt) : pm_ix l i = l[i.toInt.toNat]? := by
  have h1 : ¬ i < 0 := by
    rw [Int32.lt_iff_toInt_lt]
    have h0 : (0 : Int32).toInt = 0 := rfl
    omega
  unfold pm_ix
  rw [decide_eq_false h1]
  rfl
theorem xup_eq {α : Type} {l : List α} {i : Int32} {x : α} (h : 0 ≤ i.toInt) (h2 : i.toInt.toNat < l.length) : pm_up l i x = some (l.set i.toInt.toNat x) := by
  unfold pm_up
  rw [xix_eq h, List.getElem?_eq_getElem h2]
  rfl
def xej (a b : xe) : xe := match a, b with
  | some p, some q => some (zmin p.1 q.1, zmax p.2 q.2)
  | none, none => none
  | some p, none => some (zmin p.1 0, zmax p.2 2147483647)
  | none, some q => some (zmin 0 q.1, zmax 2147483647 q.2)
theorem xej_l {m : Int} {w : Nat} {x : Int} {a b : xe} (hm : m ≤ 2147483646) (g : xeG m w x a) : xeG m w x (xej a b) := by
  match a, b, g with
  | some p, some q, g => exact ⟨by have := g.1; show zmin p.1 q.1 ≤ x; rw [zmin_of]; omega, by have := g.2; show x ≤ zmax p.2 q.2; rw [zmax_of]; omega⟩
  | none, none, g => exact g
  | some p, none, g => exact ⟨by have := g.1; show zmin p.1 0 ≤ x; rw [zmin_of]; omega, by have := g.2; show x ≤ zmax p.2 _; rw [zmax_of]; omega⟩
  | none, some q, g => exact ⟨by have := g.1; show zmin 0 q.1 ≤ x; rw [zmin_of]; omega, by have := g.2; show x ≤ zmax _ q.2; rw [zmax_of]; omega⟩
theorem xej_r {m : Int} {w : Nat} {x : Int} {a b : xe} (hm : m ≤ 2147483646) (g : xeG m w x b) : xeG m w x (xej a b) := by
  match a, b, g with
  | some p, some q, g => exact ⟨by have := g.1; show zmin p.1 q.1 ≤ x; rw [zmin_of]; omega, by have := g.2; show x ≤ zmax p.2 q.2; rw [zmax_of]; omega⟩
  | none, none, g => exact g
  | some p, none, g => exact ⟨by have := g.1; show zmin p.1 0 ≤ x; rw [zmin_of]; omega, by have := g.2; show x ≤ zmax p.2 _; rw [zmax_of]; omega⟩
  | none, some q, g => exact ⟨by have := g.1; show zmin 0 q.1 ≤ x; rw [zmin_of]; omega, by have := g.2; show x ≤ zmax _ q.2; rw [zmax_of]; omega⟩
def xjr (sg : List (Nat × xe)) (p : Nat) : Nat → Nat → xe
  | 0, i => xat sg (Nat.mod i p)
  | c + 1, i => xej (xat sg (Nat.mod i p)) (xjr sg p c (i + 1))
theorem xjr_ok {m : Int} {w : Nat} {x : Int} {sg : List (Nat × xe)} {p : Nat} (hm : m ≤ 2147483646) : ∀ (c i j : Nat), i ≤ j → j ≤ i + c → xeG m w x (xat sg (j % p)) → xeG m w x (xjr sg p c i) := by
  intro c
  induction c with
  | zero =>
    intro i j h1 h2 g
    have : j = i := by omega
    subst this
    exact g
  | succ c ih =>
    intro i j h1 h2 g
    unfold xjr
    by_cases e : j = i
    · subst e
      exact xej_l hm g
    · exact xej_r hm (ih (i + 1) j (by omega) (by omega) g)
def xety (sg : List (Nat × xe)) (p lo hi : Nat) : xe := match sg with
  | [] => some (-2147483648, 2147483647)
  | [q] => bif (bif Nat.ble p q.1 then Nat.ble 1 p else false) then q.2 else xjr sg p (hi - lo) lo
  | _ => xjr sg p (hi - lo) lo
theorem xety_ok {m : Int} {w lo hi j p : Nat} {x : Int} {sg : List (Nat × xe)} (hm : m ≤ 2147483646) (h1 : lo ≤ j) (h2 : j ≤ hi) (g : xeG m w x (xat sg (j % p))) : xeG m w x (xety sg p lo hi) := by
  unfold xety
  split
  · exact g
  · next q =>
    cases hb : (bif Nat.ble p q.1 then Nat.ble 1 p else false) with
    | false => exact xjr_ok hm _ _ j h1 (by omega) g
    | true =>
      obtain ⟨b1, b2⟩ := x_and hb
      have b1 := Nat.le_of_ble_eq_true b1
      have b2 := Nat.le_of_ble_eq_true b2
      have h3 : j % p < p := Nat.mod_lt _ (by omega)
      have h4 : Nat.blt (j % p) q.1 = true := Nat.ble_eq_true_of_le (show j % p + 1 ≤ q.1 by omega)
      unfold xat at g
      rw [h4] at g
      exact g
  · exact xjr_ok hm _ _ j h1 (by omega) g
/-- may an element of the type be such -/
def xeacc (q : xi) (e : xe) : Bool := match e with
  | some p => xin q p.1 p.2
  | none => xin q 0 0
theorem xeacc_ok {σ : Nat → Int} {n : Nat} {m : Int} {w : Nat} {x : Int} {q : xi} {e : xe} (hw : (w : Int) ≤ m) (h : xeacc q e = true) (g : xiG σ n x q) : xeG m w x e := by
  match e, h with
  | some p, h => exact xin_ok h g
  | none, h => have := xin_ok h g; exact ⟨this.1, by omega⟩
def xfa (f : xe → Bool) (sg : List (Nat × xe)) (p : Nat) : Nat → Nat → Bool
  | 0, i => f (xat sg (Nat.mod i p))
  | c + 1, i => bif f (xat sg (Nat.mod i p)) then xfa f sg p c (i + 1) else false
theorem xfa_ok {f : xe → Bool} {sg : List (Nat × xe)} {p : Nat} : ∀ (c i j : Nat), i ≤ j → j ≤ i + c → xfa f sg p c i = true → f (xat sg (j % p)) = true := by
  intro c
  induction c with
  | zero =>
    intro i j h1 h2 h
    have : j = i := by omega
    subst this
    exact h
  | succ c ih =>
    intro i j h1 h2 h
    unfold xfa at h
    obtain ⟨h3, h4⟩ := x_and h
    by_cases e : j = i
    · subst e
      exact h3
    · exact ih (i + 1) j (by omega) (by omega) h4
def xwok (f : xe → Bool) (sg : List (Nat × xe)) (p lo hi : Nat) : Bool := match sg with
  | [] => f (some (-2147483648, 2147483647))
  | [q] => bif (bif Nat.ble p q.1 then Nat.ble 1 p else false) then f q.2 else xfa f sg p (hi - lo) lo
  | _ => xfa f sg p (hi - lo) lo
theorem xwok_ok {f : xe → Bool} {lo hi j p : Nat} {sg : List (Nat × xe)} (h1 : lo ≤ j) (h2 : j ≤ hi) (h : xwok f sg p lo hi = true) : f (xat sg (j % p)) = true := by
  unfold xwok at h
  split at h
  · exact h
  · next q =>
    cases hb : (bif Nat.ble p q.1 then Nat.ble 1 p else false) with
    | false => rw [hb] at h; exact xfa_ok _ _ j h1 (by omega) h
    | true =>
      rw [hb] at h
      obtain ⟨b1, b2⟩ := x_and hb
      have b1 := Nat.le_of_ble_eq_true b1
      have b2 := Nat.le_of_ble_eq_true b2
      have h3 : j % p < p := Nat.mod_lt _ (by omega)
      have h4 : Nat.blt (j % p) q.1 = true := Nat.ble_eq_true_of_le (show j % p + 1 ≤ q.1 by omega)
      unfold xat
      rw [h4]
      exact h
  · exact xfa_ok _ _ j h1 (by omega) h
/-- the known cell at a fixed index, or at an index of that name -/
noncomputable def xkn (s : Option Nat) (q : xi) (len : Nat) (fs : List (Nat × xv)) : Option xv := match s with
  | some a => bif (bif zeq q.2.2.1 q.2.2.2 then Nat.ble len 4096 else false) then xlook fs (a * 4096 + q.2.2.1.toNat) else (match xlook fs (17592186044416 + a) with
    | some (.inr (.inr (.inr (.inr p)))) => bif (bif Nat.beq p.1.1 q.1 then zeq p.1.2.1 q.2.1 else false) then some (.inl p.2) else none
    | _ => none)
  | none => none
/-- what a load leaves known -/
def xnote (s : Option Nat) (q : xi) (len : Nat) (v : xi) (fs : List (Nat × xv)) : List (Nat × xv) := match s with
  | some a => bif (bif zeq q.2.2.1 q.2.2.2 then Nat.ble len 4096 else false) then (a * 4096 + q.2.2.1.toNat, .inl v) :: fs else (17592186044416 + a, .inr (.inr (.inr (.inr (q, v))))) :: fs
  | none => fs
theorem xnote_ok {X : xD} {m : Int} {σ : Nat → Int} {n j len : Nat} {ph : pm_H} {fs : List (Nat × xv)} {a : Nat} {s : Option Nat} {t : xt} {l : List Int32} {x y : Int32} {q v : xi} (hone : ∀ b, s = some b → a = b) (h1 : X.1 a = some j) (h2 : X.2.1 j = some (s, t)) (h3 : pm_at ph a = some (.inl (0, .inl l))) (hlen : l.length = len) (h4 : 0 ≤ x.toInt) (h5 : l[x.toInt.toNat]? = some y) (h6 : xiG σ n x.toInt q) (h7 : xiG σ n y.toInt v) (g : xfG X m σ n ph fs) : xfG X m σ n ph (xnote s q len v fs) := by
  unfold xnote
  split
  · next a0 =>
    have := hone a0 rfl
    subst this
    cases hq : (bif zeq q.2.2.1 q.2.2.2 then Nat.ble len 4096 else false) with
    | true =>
      obtain ⟨hq1, hq2⟩ := x_and hq
      have hq1 := zeq_ok hq1
      have hq2 := Nat.le_of_ble_eq_true hq2
      have exq : q.2.2.1 = x.toInt := by have := h6.2.2.1; have := h6.2.2.2; omega
      have hlt : x.toInt.toNat < l.length := (List.getElem?_eq_some_iff.mp h5).1
      simp only [cond_true]
      rw [exq]
      refine xfG_cons (by omega) h1 h2 ?_ (xvI h7) g
      unfold xget
      rw [h3]
      show (l[x.toInt.toNat]?).map Value.int = _
      rw [h5]
      rfl
    | false => exact xfG_memo h1 h2 h3 h4 h5 h6 h7 g
  · exact g
theorem xmemo_ge (a : Nat) : ¬ 17592186044416 + a < 17592186044416 := by omega
theorem xmemo_sub (a : Nat) : 17592186044416 + a - 17592186044416 = a := by omega
theorem xmemo_eq {k a : Nat} (h : ¬ k < 17592186044416) (e : k - 17592186044416 = a) : k = 17592186044416 + a := by omega
section XAR
variable {X : xD} {K KC : pm_K} {E : pm_H → Prop} {d mj pc aux : Nat} {ins : Instr} {g : xb}
noncomputable def xial (X : xD) (g : xb) : xb := fun k ρ S => match S with
  | (n, A, .inl q :: .inr (.inr (.inl u)) :: sa, fs, w, F) => (match xarr X u with
    | some (_, s, kd, len, p, sg, _) => bif (bif Nat.beq kd 0 then xidx q len else false) then (match xkn s q len fs with
      | some z => g k ρ (n, A, z :: sa, fs, w, F)
      | none => (match xety sg p q.2.2.1.toNat q.2.2.2.toNat with
        | some (l, h) => g k ρ (n + 1, A, .inl (n, 0, l, h) :: sa, xnote s q len (n, 0, l, h) fs, w, F)
        | none => g k ρ (n, A, .inr (.inr (.inr (.inl w))) :: sa, fs, w, F))) else false
    | none => false)
  | _ => false
theorem xial_ok (hc : pm_code K mj pc = some (5, .iaload, aux)) (hg : xok X K KC E d mj (pc + 1) g) : xok X K KC E d mj pc (xial X g) := by
  intro D hD m hm n0 σ0 Fc cs ss k ρ G Q hB hkk hρ S h σ L st ph hS
  unfold xial at h
  split at h
  · next n A q u sa fs w F =>
    split at h
    · next i s kd len p sg v ha =>
      have hcond := (x_and h).1
      replace h := (x_and h).2
      obtain ⟨hkd, hix⟩ := x_and hcond
      have := Nat.eq_of_beq_eq_true hkd
      subst this
      obtain ⟨g1, g2, g3, g4, g5, g6, g7, g8, g9'⟩ := hS
      match st, g5 with
      | v2 :: v1 :: r, ⟨⟨x, e2, gx⟩, ⟨a, j, e, ho, hj⟩, g5⟩ =>
        subst e e2
        obtain ⟨ho2, hct, hone, l, hat, hlen, hel⟩ := xarr_ok ha g7 ho hj
        obtain ⟨b1, b2, b3⟩ := xidx_ok hix gx
        have hlt : x.toInt.toNat < l.length := by omega
        obtain ⟨y, hy⟩ : ∃ y, l[x.toInt.toNat]? = some y := ⟨_, List.getElem?_eq_getElem hlt⟩
        have step : pm_step K false mj (pc, L, .int x :: .ref a :: r, ph, cs, ss) = some (.inl (pc + 1, L, .int y :: r, ph, cs, ss)) := xs5 hc (by
          unfold pm_mem
          simp only [hat, xix_eq b1, hy])
        refine hB.1 _ _ _ _ _ _ _ _ step ?_
        have he := hel _ _ hy
        split at h
        · next z hz =>
          unfold xkn at hz
          split at hz
          · next a0 =>
            have := hone a0 rfl
            subst this
            cases hq : (bif zeq q.2.2.1 q.2.2.2 then Nat.ble len 4096 else false) with
            | false =>
              rw [hq] at hz
              simp only [cond_false] at hz
              split at hz
              · next p hp =>
                cases hq3 : (bif Nat.beq p.1.1 q.1 then zeq p.1.2.1 q.2.1 else false) with
                | false => rw [hq3] at hz; cases hz
                | true =>
                  rw [hq3] at hz
                  cases hz
                  obtain ⟨hq4, hq5⟩ := x_and hq3
                  have hq4 := Nat.eq_of_beq_eq_true hq4
                  have hq5 := zeq_ok hq5
                  have g9 := g6 _ _ (xlook_mem hp)
                  unfold xfact at g9
                  rw [if_neg (xmemo_ge a), xmemo_sub a] at g9
                  obtain ⟨-, l9, x9, y9, p9, k1, k2, k3, k4, k5, k6⟩ := g9
                  rw [hat] at k1
                  cases k1
                  cases k2
                  have ex : x9.toInt = x.toInt := by
                    have e1 := k5.2.1
                    have e2 := gx.2.1
                    rw [hq4, hq5] at e1
                    rw [e1, e2]
                  rw [ex, hy] at k4
                  cases k4
                  exact hg D hD m hm n0 σ0 Fc cs ss k ρ G Q hB hkk hρ _ h σ L _ ph ⟨g1, g2, g3, g4, ⟨xvI k6, g5⟩, g6, g7, g8, g9'⟩
              · cases hz
            | true =>
              rw [hq] at hz
              obtain ⟨hq1, hq2⟩ := x_and hq
              have hq1 := zeq_ok hq1
              have hq2 := Nat.le_of_ble_eq_true hq2
              have exq : q.2.2.1 = x.toInt := by have := gx.2.2.1; have := gx.2.2.2; omega
              rw [exq] at hz
              obtain ⟨-, v9, h1, h2⟩ := xfact_lo (xat_lt hat) (show x.toInt.toNat < 4096 by omega) (g6 _ _ (xlook_mem hz))
              have hget : xget ph a x.toInt.toNat = some (.int y) := by
                unfold xget
                rw [hat]
                show (l[x.toInt.toNat]?).map Value.int = _
                rw [hy]
                rfl
              rw [hget] at h1
              cases h1
              exact hg D hD m hm n0 σ0 Fc cs ss k ρ G Q hB hkk hρ _ h σ L _ ph ⟨g1, g2, g3, g4, ⟨h2, g5⟩, g6, g7, g8, g9'⟩
          · cases hz
        · have he2 := xety_ok (lo := q.2.2.1.toNat) (hi := q.2.2.2.toNat) hm (by have := gx.2.2.1; omega) (by have := gx.2.2.2; omega) he
          split at h
          · next l9 h9 hty =>
            rw [hty] at he2
            have u1 : ∀ t, t < n → xup σ n y.toInt t = σ t := fun t ht => xup_lt ht
            exact hg D hD m hm n0 σ0 Fc cs ss k ρ G Q hB hkk hρ _ h (xup σ n y.toInt) L _ ph ⟨by omega, fun t ht => by rw [u1 t (by omega)]; exact g2 t ht, g3, xlG_up u1 (by omega) g4, ⟨xvI (xfresh he2.1 he2.2), xsG_up u1 (by omega) g5⟩, xnote_ok hone ho2 hct hat hlen b1 hy (xiG_up u1 (by omega) gx) (xfresh he2.1 he2.2) (xfG_up u1 (by omega) g6), g7, xFG_up u1 (by omega) g8, g9'⟩
          · next hty =>
            rw [hty] at he2
            exact hg D hD m hm n0 σ0 Fc cs ss k ρ G Q hB hkk hρ _ h σ L _ ph ⟨g1, g2, g3, g4, ⟨xvO he2, g5⟩, g6, g7, g8, g9'⟩
    · cases h
  · cases h
/-- an array that stands fast -/
noncomputable def xirl (X : xD) (g : xb) : xb := fun k ρ S => match S with
  | (n, A, .inl q :: .inr (.inr (.inl u)) :: sa, fs, w, F) => (match xarr X u with
    | some (_, _, kd, len, p, sg, _) => bif (bif Nat.beq kd 5 then xidx q len else false) then (match xety sg p q.2.2.1.toNat q.2.2.2.toNat with
        | some (l, h) => g k ρ (n + 1, A, .inl (n, 0, l, h) :: sa, fs, w, F)
        | none => false) else false
    | none => false)
  | _ => false
theorem xirl_ok (hc : pm_code K mj pc = some (5, .iaload, aux)) (hR : ∀ a, pm_rat K a = pm_rat KC a) (hg : xok X K KC E d mj (pc + 1) g) : xok X K KC E d mj pc (xirl X g) := by
  intro D hD m hm n0 σ0 Fc cs ss k ρ G Q hB hkk hρ S h σ L st ph hS
  unfold xirl at h
  split at h
  · next n A q u sa fs w F =>
    split at h
    · next i s kd len p sg v ha =>
      have hcond := (x_and h).1
      replace h := (x_and h).2
      obtain ⟨hkd, hix⟩ := x_and hcond
      have := Nat.eq_of_beq_eq_true hkd
      subst this
      obtain ⟨g1, g2, g3, g4, g5, g6, g7, g8, g9⟩ := hS
      match st, g5 with
      | v2 :: v1 :: r, ⟨⟨x, e2, gx⟩, ⟨a, j, e, ho, hj⟩, g5⟩ =>
        subst e e2
        obtain ⟨ho2, hct, hone, hat, f, hrat, hel⟩ := xarr_ok ha g7 ho hj
        obtain ⟨b1, b2, b3⟩ := xidx_ok hix gx
        obtain ⟨y, hy, he⟩ := hel _ b2
        have h1 : ¬ x < 0 := by
          rw [Int32.lt_iff_toInt_lt]
          have h0 : (0 : Int32).toInt = 0 := rfl
          omega
        have hinb : pm_inb x len = true := by
          unfold pm_inb
          rw [decide_eq_false h1]
          exact Nat.ble_eq_true_of_le (show x.toInt.toNat + 1 ≤ len from b2)
        have hfx : f x.toNatClampNeg = .int y := hy
        have step : pm_step K false mj (pc, L, .int x :: .ref a :: r, ph, cs, ss) = some (.inl (pc + 1, L, .int y :: r, ph, cs, ss)) := xs5 hc (by
          unfold pm_mem
          simp only [hat, hR, hrat, hinb, cond_true, hfx])
        refine hB.1 _ _ _ _ _ _ _ _ step ?_
        have he2 := xety_ok (lo := q.2.2.1.toNat) (hi := q.2.2.2.toNat) hm (by have := gx.2.2.1; omega) (by have := gx.2.2.2; omega) he
        split at h
        · next l9 h9 hty =>
          rw [hty] at he2
          have u1 : ∀ t, t < n → xup σ n y.toInt t = σ t := fun t ht => xup_lt ht
          exact hg D hD m hm n0 σ0 Fc cs ss k ρ G Q hB hkk hρ _ h (xup σ n y.toInt) L _ ph ⟨by omega, fun t ht => by rw [u1 t (by omega)]; exact g2 t ht, g3, xlG_up u1 (by omega) g4, ⟨xvI (xfresh he2.1 he2.2), xsG_up u1 (by omega) g5⟩, xfG_up u1 (by omega) g6, g7, xFG_up u1 (by omega) g8, g9⟩
        · cases h
    · cases h
  · cases h
noncomputable def xbal (X : xD) (g : xb) : xb := fun k ρ S => match S with
  | (n, A, .inl q :: .inr (.inr (.inl u)) :: sa, fs, w, F) => (match xarr X u with
    | some (_, _, kd, len, _, _, _) => bif (bif Nat.beq kd 1 then xidx q len else false) then g k ρ (n + 1, A, .inl (n, 0, 0, 1) :: sa, fs, w, F) else false
    | none => false)
  | _ => false
theorem xbal_ok (hc : pm_code K mj pc = some (5, .baload, aux)) (hg : xok X K KC E d mj (pc + 1) g) : xok X K KC E d mj pc (xbal X g) := by
  intro D hD m hm n0 σ0 Fc cs ss k ρ G Q hB hkk hρ S h σ L st ph hS
  unfold xbal at h
  split at h
  · next n A q u sa fs w F =>
    split at h
    · next i s kd len p sg v ha =>
      have hcond := (x_and h).1
      replace h := (x_and h).2
      obtain ⟨hkd, hix⟩ := x_and hcond
      have := Nat.eq_of_beq_eq_true hkd
      subst this
      obtain ⟨g1, g2, g3, g4, g5, g6, g7, g8, g9⟩ := hS
      match st, g5 with
      | v2 :: v1 :: r, ⟨⟨x, e2, gx⟩, ⟨a, j, e, ho, hj⟩, g5⟩ =>
        subst e e2
        obtain ⟨ho2, hct, hone, l, hat, hlen, hel⟩ := xarr_ok ha g7 ho hj
        obtain ⟨b1, b2, b3⟩ := xidx_ok hix gx
        have hlt : x.toInt.toNat < l.length := by omega
        obtain ⟨y, hy⟩ : ∃ y, l[x.toInt.toNat]? = some y := ⟨_, List.getElem?_eq_getElem hlt⟩
        have step : pm_step K false mj (pc, L, .int x :: .ref a :: r, ph, cs, ss) = some (.inl (pc + 1, L, .int y :: r, ph, cs, ss)) := xs5 hc (by
          unfold pm_mem
          simp only [hat, xix_eq b1, hy])
        refine hB.1 _ _ _ _ _ _ _ _ step ?_
        have he2 := hel _ _ hy
        have u1 : ∀ t, t < n → xup σ n y.toInt t = σ t := fun t ht => xup_lt ht
        exact hg D hD m hm n0 σ0 Fc cs ss k ρ G Q hB hkk hρ _ h (xup σ n y.toInt) L _ ph ⟨by omega, fun t ht => by rw [u1 t (by omega)]; exact g2 t ht, g3, xlG_up u1 (by omega) g4, ⟨xvI (xfresh he2.1 he2.2), xsG_up u1 (by omega) g5⟩, xfG_up u1 (by omega) g6, g7, xFG_up u1 (by omega) g8, g9⟩
    · cases h
  · cases h
noncomputable def xlal (X : xD) (g : xb) : xb := fun k ρ S => match S with
  | (n, A, .inl q :: .inr (.inr (.inl u)) :: sa, fs, w, F) => (match xarr X u with
    | some (_, _, kd, len, _, _, _) => bif (bif Nat.beq kd 2 then xidx q len else false) then g k ρ (n + 1, A, .inr (.inl (xtopL n)) :: sa, fs, w, F) else false
    | none => false)
  | _ => false
theorem xlal_ok (hc : pm_code K mj pc = some (5, .laload, aux)) (hg : xok X K KC E d mj (pc + 1) g) : xok X K KC E d mj pc (xlal X g) := by
  intro D hD m hm n0 σ0 Fc cs ss k ρ G Q hB hkk hρ S h σ L st ph hS
  unfold xlal at h
  split at h
  · next n A q u sa fs w F =>
    split at h
    · next i s kd len p sg v ha =>
      have hcond := (x_and h).1
      replace h := (x_and h).2
      obtain ⟨hkd, hix⟩ := x_and hcond
      have := Nat.eq_of_beq_eq_true hkd
      subst this
      obtain ⟨g1, g2, g3, g4, g5, g6, g7, g8, g9⟩ := hS
      match st, g5 with
      | v2 :: v1 :: r, ⟨⟨x, e2, gx⟩, ⟨a, j, e, ho, hj⟩, g5⟩ =>
        subst e e2
        obtain ⟨ho2, hct, hone, l, hat, hlen⟩ := xarr_ok ha g7 ho hj
        obtain ⟨b1, b2, b3⟩ := xidx_ok hix gx
        have hlt : x.toInt.toNat < l.length := by omega
        obtain ⟨y, hy⟩ : ∃ y, l[x.toInt.toNat]? = some y := ⟨_, List.getElem?_eq_getElem hlt⟩
        have step : pm_step K false mj (pc, L, .int x :: .ref a :: r, ph, cs, ss) = some (.inl (pc + 1, L, .long y :: r, ph, cs, ss)) := xs5 hc (by
          unfold pm_mem
          simp only [hat, xix_eq b1, hy])
        refine hB.1 _ _ _ _ _ _ _ _ step ?_
        have u1 : ∀ t, t < n → xup σ n y.toInt t = σ t := fun t ht => xup_lt ht
        exact hg D hD m hm n0 σ0 Fc cs ss k ρ G Q hB hkk hρ _ h (xup σ n y.toInt) L _ ph ⟨by omega, fun t ht => by rw [u1 t (by omega)]; exact g2 t ht, g3, xlG_up u1 (by omega) g4, ⟨xvJ (xtopL_ok y), xsG_up u1 (by omega) g5⟩, xfG_up u1 (by omega) g6, g7, xFG_up u1 (by omega) g8, g9⟩
    · cases h
  · cases h
noncomputable def xaal (X : xD) (g : xb) : xb := fun k ρ S => match S with
  | (n, A, .inl q :: .inr (.inr (.inl u)) :: sa, fs, w, F) => (match xarr X u with
    | some (_, _, kd, len, _, _, v) => bif (bif Nat.beq kd 4 then xidx q len else false) then g k ρ (n, A, .inr (.inr (.inl v)) :: sa, fs, w, F) else false
    | none => false)
  | _ => false
theorem xaal_ok (hc : pm_code K mj pc = some (5, .aaload, aux)) (hg : xok X K KC E d mj (pc + 1) g) : xok X K KC E d mj pc (xaal X g) := by
  intro D hD m hm n0 σ0 Fc cs ss k ρ G Q hB hkk hρ S h σ L st ph hS
  unfold xaal at h
  split at h
  · next n A q u sa fs w F =>
    split at h
    · next i s kd len p sg v ha =>
      have hcond := (x_and h).1
      replace h := (x_and h).2
      obtain ⟨hkd, hix⟩ := x_and hcond
      have := Nat.eq_of_beq_eq_true hkd
      subst this
      obtain ⟨g1, g2, g3, g4, g5, g6, g7, g8, g9⟩ := hS
      match st, g5 with
      | v2 :: v1 :: r, ⟨⟨x, e2, gx⟩, ⟨a, j, e, ho, hj⟩, g5⟩ =>
        subst e e2
        obtain ⟨ho2, hct, hone, l, hat, hlen, hel⟩ := xarr_ok ha g7 ho hj
        obtain ⟨b1, b2, b3⟩ := xidx_ok hix gx
        have hlt : x.toInt.toNat < l.length := by omega
        obtain ⟨y, hy⟩ : ∃ y, l[x.toInt.toNat]? = some y := ⟨_, List.getElem?_eq_getElem hlt⟩
        obtain ⟨q2, j2, e, h1, h2⟩ := hel _ _ hy
        subst e
        have step : pm_step K false mj (pc, L, .int x :: .ref a :: r, ph, cs, ss) = some (.inl (pc + 1, L, .ref q2 :: r, ph, cs, ss)) := xs5 hc (by
          unfold pm_mem
          simp only [hat, xix_eq b1, hy, pm_rv])
        refine hB.1 _ _ _ _ _ _ _ _ step ?_
        exact hg D hD m hm n0 σ0 Fc cs ss k ρ G Q hB hkk hρ _ h σ L _ ph ⟨g1, g2, g3, g4, ⟨xvR h1 h2, g5⟩, g6, g7, g8, g9⟩
    · cases h
  · cases h
noncomputable def xaln (X : xD) (g : xb) : xb := fun k ρ S => match S with
  | (n, A, .inr (.inr (.inl u)) :: sa, fs, w, F) => (match xarr X u with
    | some (_, _, kd, len, _, _, _) => bif (bif Nat.ble len 65535 then (bif Nat.beq kd 0 then true else bif Nat.beq kd 1 then true else bif Nat.beq kd 2 then true else Nat.beq kd 4) else false) then g k ρ (n, A, .inl (0, Int.ofNat len, Int.ofNat len, Int.ofNat len) :: sa, fs, w, F) else false
    | none => false)
  | _ => false
theorem xlen_ok {σ : Nat → Int} {n len : Nat} (hn : 0 < n) (h0 : σ 0 = 0) (h : len ≤ 65535) : xiG σ n (Int32.ofNat len).toInt (0, Int.ofNat len, Int.ofNat len, Int.ofNat len) := by
  have e : (Int32.ofNat len).toInt = (len : Int) := by rw [Int32.toInt_ofNat']; exact xbm (by omega) (by omega)
  rw [e]
  exact ⟨hn, by show (len : Int) = σ 0 + (len : Int); omega, Int.le_refl _, Int.le_refl _⟩
theorem xaln_ok (hc : pm_code K mj pc = some (5, .arraylength, aux)) (hg : xok X K KC E d mj (pc + 1) g) : xok X K KC E d mj pc (xaln X g) := by
  intro D hD m hm n0 σ0 Fc cs ss k ρ G Q hB hkk hρ S h σ L st ph hS
  unfold xaln at h
  split at h
  · next n A u sa fs w F =>
    split at h
    · next i s kd len p sg v ha =>
      have hcond := (x_and h).1
      replace h := (x_and h).2
      obtain ⟨hle, hkd⟩ := x_and hcond
      have hle := Nat.le_of_ble_eq_true hle
      obtain ⟨g1, g2, g3, g4, g5, g6, g7, g8, g9⟩ := hS
      have hn : 0 < n := Nat.lt_of_lt_of_le g3.1 g1
      have h0 : σ 0 = 0 := by rw [g2 0 g3.1]; exact g3.2.1
      match st, g5 with
      | v1 :: r, ⟨⟨a, j, e, ho, hj⟩, g5⟩ =>
        subst e
        obtain ⟨ho2, hct, hone, hcell⟩ := xarr_ok ha g7 ho hj
        have fin : pm_step K false mj (pc, L, .ref a :: r, ph, cs, ss) = some (.inl (pc + 1, L, .int (Int32.ofNat len) :: r, ph, cs, ss)) → G (pc, L, .ref a :: r, ph, cs, ss) := fun step => hB.1 _ _ _ _ _ _ _ _ step (hg D hD m hm n0 σ0 Fc cs ss k ρ G Q hB hkk hρ _ h σ L _ ph ⟨g1, g2, g3, g4, ⟨xvI (xlen_ok hn h0 hle), g5⟩, g6, g7, g8, g9⟩)
        have b4 : Nat.ble 0 4 = true := rfl
        have b5 : Nat.ble 1 4 = true := rfl
        have b6 : Nat.ble 2 4 = true := rfl
        have b7 : Nat.ble 4 4 = true := rfl
        cases k0 : Nat.beq kd 0 with
        | true =>
          have := Nat.eq_of_beq_eq_true k0
          subst this
          obtain ⟨l, hat, hlen, -⟩ := hcell
          exact fin (xs5 hc (by unfold pm_mem; simp only [hat, hlen, b4, cond_true]))
        | false =>
          rw [k0] at hkd
          simp only [cond_false] at hkd
          cases k1 : Nat.beq kd 1 with
          | true =>
            have := Nat.eq_of_beq_eq_true k1
            subst this
            obtain ⟨l, hat, hlen, -⟩ := hcell
            exact fin (xs5 hc (by unfold pm_mem; simp only [hat, hlen, b5, cond_true]))
          | false =>
            rw [k1] at hkd
            simp only [cond_false] at hkd
            cases k2 : Nat.beq kd 2 with
            | true =>
              have := Nat.eq_of_beq_eq_true k2
              subst this
              obtain ⟨l, hat, hlen⟩ := hcell
              exact fin (xs5 hc (by unfold pm_mem; simp only [hat, hlen, b6, cond_true]))
            | false =>
              rw [k2] at hkd
              simp only [cond_false] at hkd
              have := Nat.eq_of_beq_eq_true hkd
              subst this
              obtain ⟨l, hat, hlen, -⟩ := hcell
              exact fin (xs5 hc (by unfold pm_mem; simp only [hat, hlen, b7, cond_true]))
    · cases h
  · cases h
/-- E behind a write to an array -/
theorem xE_wr {gA : List Nat} {gF : List (Nat × Nat)} {a i : Nat} {ph : pm_H} {c : pm_C} {s : Option Nat} {t : Nat × Nat × Nat × List (Nat × xe) × Nat} (hX : xsane X gA gF) (hE : xHE X gA gF E) (ho : X.1 a = some i) (hct : X.2.1 i = some (s, .inl t)) (hgd : xmemN gA i = false) (hcl : ∀ k, (i, k) ∈ gF → xget ph a k = xget (ph.set a c) a k) (g : E ph) : E (ph.set a c) := by
  refine hE ph _ ⟨fun b j2 hb hm2 => ?_, fun b j2 k2 hb hm2 => ?_⟩ g
  · by_cases eb : b = a
    · subst eb
      rw [ho] at hb
      cases hb
      exact absurd hm2 (xmemN_ok hgd)
    · exact (xat_ne eb).symm
  · by_cases eb : b = a
    · subst eb
      rw [ho] at hb
      cases hb
      exact hcl k2 hm2
    · exact (xget_ne eb).symm
theorem xE_arr {gA : List Nat} {gF : List (Nat × Nat)} {a i kd : Nat} {ph : pm_H} {c : pm_C} {s : Option Nat} {t : Nat × Nat × List (Nat × xe) × Nat} (hX : xsane X gA gF) (hE : xHE X gA gF E) (hkd : kd ≠ 0) (ho : X.1 a = some i) (hct : X.2.1 i = some (s, .inl (kd, t))) (hgd : xmemN gA i = false) (g : E ph) : E (ph.set a c) := xE_wr hX hE ho hct hgd (fun k hk => by
  rcases hX.2 _ _ hk with ⟨s3, t3, h3⟩ | ⟨s3, t3, h3⟩
  · rw [hct] at h3
    cases h3
  · rw [hct] at h3
    cases h3
    exact absurd rfl hkd) g
/-- no guarded cell of the kind from lo to hi -/
noncomputable def xgcl (gF : List (Nat × Nat)) (i lo hi : Nat) : Bool := List.rec (motive := fun _ => Bool) true (fun p _ ih => bif (bif Nat.beq p.1 i then bif Nat.blt p.2 lo then true else Nat.blt hi p.2 else true) then ih else false) gF
theorem xgcl_c {p : Nat × Nat} {r : List (Nat × Nat)} {i lo hi : Nat} : xgcl (p :: r) i lo hi = bif (bif Nat.beq p.1 i then bif Nat.blt p.2 lo then true else Nat.blt hi p.2 else true) then xgcl r i lo hi else false := rfl
theorem xgcl_ok : ∀ {gF : List (Nat × Nat)} {i lo hi k x : Nat}, xgcl gF i lo hi = true → (i, k) ∈ gF → lo ≤ x → x ≤ hi → k ≠ x := by
  intro gF
  induction gF with
  | nil => intro i lo hi k x _ hm; cases hm
  | cons p r ih =>
    intro i lo hi k x h hm h1 h2
    rw [xgcl_c] at h
    obtain ⟨h3, h4⟩ := x_and h
    rcases List.mem_cons.mp hm with e | e
    · subst e
      have e1 : Nat.beq i i = true := by simp
      rw [e1] at h3
      simp only [cond_true] at h3
      cases hb : Nat.blt k lo with
      | true => have : k < lo := Nat.le_of_ble_eq_true hb; omega
      | false =>
        rw [hb] at h3
        have : hi < k := Nat.le_of_ble_eq_true h3
        omega
    · exact ih h4 e h1 h2
noncomputable def xbas (X : xD) (gA : List Nat) (g : xb) : xb := fun k ρ S => match S with
  | (n, A, .inl _ :: .inl q :: .inr (.inr (.inl u)) :: sa, fs, w, F) => (match xarr X u with
    | some (i, _, kd, len, _, _, _) => bif (bif Nat.beq kd 1 then xidx q len else false) then bif xmemN gA i then false else g k ρ (n, A, sa, fs, w, F) else false
    | none => false)
  | _ => false
theorem xbas_ok {gA : List Nat} {gF : List (Nat × Nat)} (hX : xsane X gA gF) (hE : xHE X gA gF E) (hc : pm_code K mj pc = some (5, .bastore, aux)) (hg : xok X K KC E d mj (pc + 1) g) : xok X K KC E d mj pc (xbas X gA g) := by
  intro D hD m hm n0 σ0 Fc cs ss k ρ G Q hB hkk hρ S h σ L st ph hS
  unfold xbas at h
  split at h
  · next n A z q u sa fs w F =>
    split at h
    · next i s kd len p sg v ha =>
      have hcond := (x_and h).1
      replace h := (x_and h).2
      obtain ⟨hkd, hix⟩ := x_and hcond
      have := Nat.eq_of_beq_eq_true hkd
      subst this
      cases hgd : xmemN gA i with
      | true => rw [hgd] at h; cases h
      | false =>
      rw [hgd] at h
      obtain ⟨g1, g2, g3, g4, g5, g6, g7, g8, g9⟩ := hS
      match st, g5 with
      | v3 :: v2 :: v1 :: r, ⟨⟨y, e3, gy⟩, ⟨x, e2, gx⟩, ⟨a, j, e, ho, hj⟩, g5⟩ =>
        subst e e2 e3
        obtain ⟨ho2, hct, hone, l, hat, hlen, hel⟩ := xarr_ok ha g7 ho hj
        obtain ⟨b1, b2, b3⟩ := xidx_ok hix gx
        have hlt : x.toInt.toNat < l.length := by omega
        have step : pm_step K false mj (pc, L, .int y :: .int x :: .ref a :: r, ph, cs, ss) = some (.inl (pc + 1, L, r, ph.set a (.inl (1, .inl (l.set x.toInt.toNat (y &&& 1)))), cs, ss)) := xs5 hc (by
          unfold pm_mem
          simp only [hat, xup_eq b1 hlt])
        refine hB.1 _ _ _ _ _ _ _ _ step ?_
        have hat2 : pm_at (ph.set a (.inl (1, .inl (l.set x.toInt.toNat (y &&& 1))))) a = some _ := xat_self hat
        refine hg D hD m hm n0 σ0 Fc cs ss k ρ G Q hB hkk hρ _ h σ L _ _ ⟨g1, g2, g3, g4, g5, xfG_set g6 (fun p2 hp2 => ⟨hp2, fun _ => ?_, fun _ l9 hl9 => ?_⟩), xH_set g7 ho2 hct ⟨_, hat2, by rw [List.length_set]; exact hlen, fun i2 x2 hx2 => ?_⟩, g8, xE_arr hX hE (by decide) ho2 hct hgd g9⟩
        · by_cases eb : p2.1 / 4096 = a
          · rw [eb]
            unfold xget
            rw [hat2, hat]
            rfl
          · exact xget_ne eb
        · by_cases eb : p2.1 - 17592186044416 = a
          · rw [eb, hat] at hl9
            cases hl9
          · exact xat_ne eb
        · by_cases ei : i2 = x.toInt.toNat
          · subst ei
            rw [List.getElem?_set_self hlt] at hx2
            cases hx2
            have h1 : (1 : Int32).toInt = 1 := rfl
            have := xand_le (x := y) (y := (1 : Int32)) (by omega)
            omega
          · rw [List.getElem?_set_ne (Ne.symm ei)] at hx2
            exact hel i2 x2 hx2
    · cases h
  · cases h
noncomputable def xlas (X : xD) (gA : List Nat) (g : xb) : xb := fun k ρ S => match S with
  | (n, A, .inr (.inl _) :: .inl q :: .inr (.inr (.inl u)) :: sa, fs, w, F) => (match xarr X u with
    | some (i, _, kd, len, _, _, _) => bif (bif Nat.beq kd 2 then xidx q len else false) then bif xmemN gA i then false else g k ρ (n, A, sa, fs, w, F) else false
    | none => false)
  | _ => false
theorem xlas_ok {gA : List Nat} {gF : List (Nat × Nat)} (hX : xsane X gA gF) (hE : xHE X gA gF E) (hc : pm_code K mj pc = some (5, .lastore, aux)) (hg : xok X K KC E d mj (pc + 1) g) : xok X K KC E d mj pc (xlas X gA g) := by
  intro D hD m hm n0 σ0 Fc cs ss k ρ G Q hB hkk hρ S h σ L st ph hS
  unfold xlas at h
  split at h
  · next n A z q u sa fs w F =>
    split at h
    · next i s kd len p sg v ha =>
      have hcond := (x_and h).1
      replace h := (x_and h).2
      obtain ⟨hkd, hix⟩ := x_and hcond
      have := Nat.eq_of_beq_eq_true hkd
      subst this
      cases hgd : xmemN gA i with
      | true => rw [hgd] at h; cases h
      | false =>
      rw [hgd] at h
      obtain ⟨g1, g2, g3, g4, g5, g6, g7, g8, g9⟩ := hS
      match st, g5 with
      | v3 :: v2 :: v1 :: r, ⟨⟨y, e3, gy⟩, ⟨x, e2, gx⟩, ⟨a, j, e, ho, hj⟩, g5⟩ =>
        subst e e2 e3
        obtain ⟨ho2, hct, hone, l, hat, hlen⟩ := xarr_ok ha g7 ho hj
        obtain ⟨b1, b2, b3⟩ := xidx_ok hix gx
        have hlt : x.toInt.toNat < l.length := by omega
        have step : pm_step K false mj (pc, L, .long y :: .int x :: .ref a :: r, ph, cs, ss) = some (.inl (pc + 1, L, r, ph.set a (.inl (2, .inr (.inl (l.set x.toInt.toNat y)))), cs, ss)) := xs5 hc (by
          unfold pm_mem
          simp only [hat, xup_eq b1 hlt])
        refine hB.1 _ _ _ _ _ _ _ _ step ?_
        have hat2 : pm_at (ph.set a (.inl (2, .inr (.inl (l.set x.toInt.toNat y))))) a = some _ := xat_self hat
        refine hg D hD m hm n0 σ0 Fc cs ss k ρ G Q hB hkk hρ _ h σ L _ _ ⟨g1, g2, g3, g4, g5, xfG_set g6 (fun p2 hp2 => ⟨hp2, fun _ => ?_, fun _ l9 hl9 => ?_⟩), xH_set g7 ho2 hct ⟨_, hat2, by rw [List.length_set]; exact hlen⟩, g8, xE_arr hX hE (by decide) ho2 hct hgd g9⟩
        · by_cases eb : p2.1 / 4096 = a
          · rw [eb]
            unfold xget
            rw [hat2, hat]
            rfl
          · exact xget_ne eb
        · by_cases eb : p2.1 - 17592186044416 = a
          · rw [eb, hat] at hl9
            cases hl9
          · exact xat_ne eb
    · cases h
  · cases h
theorem xE_idx {gA : List Nat} {gF : List (Nat × Nat)} {a i k lo hi : Nat} {ph : pm_H} {l : List Int32} {y : Int32} {s : Option Nat} {t : Nat × Nat × Nat × List (Nat × xe) × Nat} (hX : xsane X gA gF) (hE : xHE X gA gF E) (ho : X.1 a = some i) (hct : X.2.1 i = some (s, .inl t)) (hat : pm_at ph a = some (.inl (0, .inl l))) (hgd : xmemN gA i = false) (hcl : xgcl gF i lo hi = true) (h1 : lo ≤ k) (h2 : k ≤ hi) (g : E ph) : E (ph.set a (.inl (0, .inl (l.set k y)))) := xE_wr hX hE ho hct hgd (fun k2 hk => by
  have hne := xgcl_ok hcl hk h1 h2
  unfold xget
  rw [hat, xat_self hat]
  show (l[k2]?).map Value.int = ((l.set k y)[k2]?).map Value.int
  rw [List.getElem?_set_ne (Ne.symm hne)]) g
/-- what a write of a known thing leaves known -/
noncomputable def xwfs (s : Option Nat) (q : xi) (len : Nat) (v : xv) (fs : List (Nat × xv)) : List (Nat × xv) := match s with
  | some a => bif (bif zeq q.2.2.1 q.2.2.2 then Nat.ble len 4096 else false) then (a * 4096 + q.2.2.1.toNat, v) :: xdrop (xdrop fs (17592186044416 + a)) (a * 4096 + q.2.2.1.toNat) else xdropA fs a
  | none => fs
noncomputable def xias (X : xD) (gA : List Nat) (gF : List (Nat × Nat)) (g : xb) : xb := fun k ρ S => match S with
  | (n, A, .inl z :: .inl q :: .inr (.inr (.inl u)) :: sa, fs, w, F) => (match xarr X u with
    | some (i, s, kd, len, p, sg, _) => bif (bif Nat.beq kd 0 then bif xidx q len then xwok (xeacc z) sg p q.2.2.1.toNat q.2.2.2.toNat else false else false) then bif xmemN gA i then false else bif xgcl gF i q.2.2.1.toNat q.2.2.2.toNat then g k ρ (n, A, sa, xwfs s q len (.inl z) fs, w, F) else false else false
    | none => false)
  | (n, A, .inr (.inr (.inr (.inl kh))) :: .inl q :: .inr (.inr (.inl u)) :: sa, fs, w, F) => (match xarr X u with
    | some (i, s, kd, len, p, sg, _) => bif (bif Nat.beq kd 0 then bif xidx q len then xwok (fun e => match e with | none => true | some r => bif zle r.1 0 then zle 2147483647 r.2 else false) sg p q.2.2.1.toNat q.2.2.2.toNat else false else false) then bif xmemN gA i then false else bif xgcl gF i q.2.2.1.toNat q.2.2.2.toNat then (bif Nat.ble w kh then g k ρ (n, A, sa, xwfs s q len (.inr (.inr (.inr (.inl kh)))) fs, w, F) else g k ρ (n, A, sa, xwfs s q len (.inr (.inr (.inr (.inl kh)))) fs, kh, F)) else false else false
    | none => false)
  | _ => false
theorem xias_core {m : Int} {n0 n w a i len p u2 : Nat} {σ0 σ : Nat → Int} {A : List (Option xv)} {sa : List xv} {fs : List (Nat × xv)} {F : List xF} {s : Option Nat} {sg : List (Nat × xe)} {L : List (Option Value)} {st : List Value} {ph : pm_H} {Fc : xFc} {l : List Int32} {x y : Int32} {q : xi} {v : xv} (ho : X.1 a = some i) (hct : X.2.1 i = some (s, .inl (0, len, p, sg, u2))) (hone : ∀ b, s = some b → a = b) (hat : pm_at ph a = some (.inl (0, .inl l))) (hlen : l.length = len) (hix : xidx q len = true) (gx : xiG σ n x.toInt q) (hE9 : E (ph.set a (.inl (0, .inl (l.set x.toInt.toNat y))))) (gv : xvG X m σ n (.int y) v) (hS : xg X KC E m n0 σ0 (n, A, sa, fs, w, F) σ L st ph Fc) (he : xeG m w y.toInt (xat sg (x.toInt.toNat % p))) : xg X KC E m n0 σ0 (n, A, sa, xwfs s q len v fs, w, F) σ L st (ph.set a (.inl (0, .inl (l.set x.toInt.toNat y)))) Fc := by
  obtain ⟨g1, g2, g3, g4, g5, g6, g7, g8, g9⟩ := hS
  obtain ⟨b1, b2, b3⟩ := xidx_ok hix gx
  have hlt : x.toInt.toNat < l.length := by omega
  have hat2 : pm_at (ph.set a (.inl (0, .inl (l.set x.toInt.toNat y)))) a = some (.inl (0, .inl (l.set x.toInt.toNat y))) := xat_self hat
  have hgets : ∀ b k2, ¬ (b = a ∧ k2 = x.toInt.toNat) → xget (ph.set a (.inl (0, .inl (l.set x.toInt.toNat y)))) b k2 = xget ph b k2 := fun b k2 hne => by
    by_cases eb : b = a
    · subst eb
      unfold xget
      rw [hat2, hat]
      show ((l.set x.toInt.toNat y)[k2]?).map Value.int = (l[k2]?).map Value.int
      rw [List.getElem?_set_ne (fun q => hne ⟨rfl, q.symm⟩)]
    · exact xget_ne eb
  have hmem : ∀ b, b ≠ a → ∀ l9, pm_at ph b = some (.inl (0, .inl l9)) → pm_at (ph.set a (.inl (0, .inl (l.set x.toInt.toNat y)))) b = pm_at ph b := fun b eb _ _ => xat_ne eb
  obtain ⟨s2, t2, hp1, hp2, hp3⟩ := g7 a i ho
  rw [hct] at hp1
  cases hp1
  obtain ⟨l2, hat3, hlen3, hel⟩ := hp3
  rw [hat] at hat3
  cases hat3
  refine ⟨g1, g2, g3, g4, g5, ?_, xH_set g7 ho hct ⟨_, hat2, by rw [List.length_set]; exact hlen, fun i2 x2 hx2 => ?_⟩, g8, hE9⟩
  · unfold xwfs
    split
    · next a0 =>
      have := hone a0 rfl
      subst this
      cases hq : (bif zeq q.2.2.1 q.2.2.2 then Nat.ble len 4096 else false) with
      | true =>
        simp only [cond_true]
        obtain ⟨hq1, hq2⟩ := x_and hq
        have hq1 := zeq_ok hq1
        have hq2 := Nat.le_of_ble_eq_true hq2
        have exq : q.2.2.1 = x.toInt := by have := gx.2.2.1; have := gx.2.2.2; omega
        rw [exq]
        refine xfG_cons (by omega) ho hct ?_ gv (xfG_set g6 fun p2 hp => ?_)
        · unfold xget
          rw [hat2]
          show ((l.set x.toInt.toNat y)[x.toInt.toNat]?).map Value.int = _
          rw [List.getElem?_set_self hlt]
          rfl
        · obtain ⟨h1, h2⟩ := xdrop_mem hp
          obtain ⟨h3, h4⟩ := xdrop_mem h1
          refine ⟨h3, fun _ => hgets _ _ ?_, fun hge => hmem _ fun e => h4 ?_⟩
          · rintro ⟨e1, e2⟩
            exact h2 (xkey3 e1 e2)
          · exact xmemo_eq hge e
      | false =>
        simp only [cond_false]
        refine xfG_set g6 fun p2 hp => ?_
        obtain ⟨h1, h2, h3⟩ := xdropA_mem hp
        exact ⟨h1, fun _ => hgets _ _ fun e => h2 e.1, fun hge => hmem _ fun e => h3 (xmemo_eq hge e)⟩
    · refine xfG_set g6 fun p2 hp => ⟨hp, fun hk9 => hgets _ _ ?_, fun hge => hmem _ fun e => ?_⟩
      · rintro ⟨e1, e2⟩
        have g99 := g6 p2.1 p2.2 hp
        unfold xfact at g99
        rw [if_pos hk9] at g99
        obtain ⟨⟨j3, t3, h3, h4⟩, -⟩ := g99
        rw [e1, ho] at h3
        cases h3
        rw [hct] at h4
        cases h4
      · have g99 := g6 p2.1 p2.2 hp
        unfold xfact at g99
        rw [if_neg hge, e] at g99
        obtain ⟨⟨j3, t3, h3, h4⟩, -⟩ := g99
        rw [ho] at h3
        cases h3
        rw [hct] at h4
        cases h4
  · by_cases ei : i2 = x.toInt.toNat
    · subst ei
      rw [List.getElem?_set_self hlt] at hx2
      cases hx2
      exact he
    · rw [List.getElem?_set_ne (Ne.symm ei)] at hx2
      exact hel i2 x2 hx2
theorem xias_ok {gA : List Nat} {gF : List (Nat × Nat)} (hX : xsane X gA gF) (hE : xHE X gA gF E) (hc : pm_code K mj pc = some (5, .iastore, aux)) (hg : xok X K KC E d mj (pc + 1) g) : xok X K KC E d mj pc (xias X gA gF g) := by
  intro D hD m hm n0 σ0 Fc cs ss k ρ G Q hB hkk hρ S h σ L st ph hS
  have stp : ∀ {a : Nat} {l : List Int32} {x y : Int32} {r : List Value} {ph : pm_H}, pm_at ph a = some (.inl (0, .inl l)) → 0 ≤ x.toInt → x.toInt.toNat < l.length → pm_step K false mj (pc, L, .int y :: .int x :: .ref a :: r, ph, cs, ss) = some (.inl (pc + 1, L, r, ph.set a (.inl (0, .inl (l.set x.toInt.toNat y))), cs, ss)) := fun hat b1 hlt => xs5 hc (by
    unfold pm_mem
    simp only [hat, xup_eq b1 hlt])
  unfold xias at h
  split at h
  · next n A z q u sa fs w F =>
    split at h
    · next i s kd len p sg v ha =>
      have hcond := (x_and h).1
      replace h := (x_and h).2
      obtain ⟨hkd, hcond⟩ := x_and hcond
      obtain ⟨hix, hacc⟩ := x_and hcond
      have := Nat.eq_of_beq_eq_true hkd
      subst this
      cases hgd : xmemN gA i with
      | true => rw [hgd] at h; cases h
      | false =>
      rw [hgd] at h
      simp only [cond_false] at h
      have hclr := (x_and h).1
      replace h := (x_and h).2
      obtain ⟨g1, g2, g3, g4, g5, g6, g7, g8, g9⟩ := hS
      match st, g5 with
      | v3 :: v2 :: v1 :: r, ⟨⟨y, e3, gy⟩, ⟨x, e2, gx⟩, ⟨a, j, e, ho, hj⟩, g5⟩ =>
        subst e e2 e3
        obtain ⟨ho2, hct, hone, l, hat, hlen, hel⟩ := xarr_ok ha g7 ho hj
        obtain ⟨b1, b2, b3⟩ := xidx_ok hix gx
        have hlt : x.toInt.toNat < l.length := by omega
        refine hB.1 _ _ _ _ _ _ _ _ (stp hat b1 hlt) ?_
        have hE9 := xE_idx (k := x.toInt.toNat) hX hE ho2 hct hat hgd hclr (by have := gx.2.2.1; omega) (by have := gx.2.2.2; omega) (y := y) g9
        refine hg D hD m hm n0 σ0 Fc cs ss k ρ G Q hB hkk hρ _ h σ L _ _ (xias_core ho2 hct hone hat hlen hix gx hE9 (xvI gy) ⟨g1, g2, g3, g4, g5, g6, g7, g8, g9⟩ ?_)
        exact xeacc_ok g3.2.2 (xwok_ok (j := x.toInt.toNat) (by have := gx.2.2.1; omega) (by have := gx.2.2.2; omega) hacc) gy
    · cases h
  · next n A kh q u sa fs w F =>
    split at h
    · next i s kd len p sg v ha =>
      have hcond := (x_and h).1
      replace h := (x_and h).2
      obtain ⟨hkd, hcond⟩ := x_and hcond
      obtain ⟨hix, hacc⟩ := x_and hcond
      have := Nat.eq_of_beq_eq_true hkd
      subst this
      cases hgd : xmemN gA i with
      | true => rw [hgd] at h; cases h
      | false =>
      rw [hgd] at h
      simp only [cond_false] at h
      have hclr := (x_and h).1
      replace h := (x_and h).2
      obtain ⟨g1, g2, g3, g4, g5, g6, g7, g8, g9⟩ := hS
      match st, g5 with
      | v3 :: v2 :: v1 :: r, ⟨⟨y, e3, gy⟩, ⟨x, e2, gx⟩, ⟨a, j, e, ho, hj⟩, g5⟩ =>
        subst e e2 e3
        obtain ⟨ho2, hct, hone, l, hat, hlen, hel⟩ := xarr_ok ha g7 ho hj
        obtain ⟨b1, b2, b3⟩ := xidx_ok hix gx
        have hlt : x.toInt.toNat < l.length := by omega
        refine hB.1 _ _ _ _ _ _ _ _ (stp hat b1 hlt) ?_
        have hE9 := xE_idx (k := x.toInt.toNat) hX hE ho2 hct hat hgd hclr (by have := gx.2.2.1; omega) (by have := gx.2.2.2; omega) (y := y) g9
        have hac := xwok_ok (j := x.toInt.toNat) (by have := gx.2.2.1; omega) (by have := gx.2.2.2; omega) hacc
        have key : ∀ w2 : Nat, w2 ≤ w → w2 ≤ kh → (w2 : Int) ≤ m → xg X KC E m n0 σ0 (n, A, sa, xwfs s q len (.inr (.inr (.inr (.inl kh)))) fs, w2, F) σ L r (ph.set a (.inl (0, .inl (l.set x.toInt.toNat y)))) Fc := fun w2 hw1 hw2 hw3 => by
          refine xias_core ho2 hct hone hat hlen hix gx hE9 (xvO gy) ⟨g1, g2, ⟨g3.1, g3.2.1, hw3⟩, g4, g5, g6, xH_w hw1 g7, g8, g9⟩ ?_
          revert hac
          generalize xat sg (x.toInt.toNat % p) = e
          intro hac
          match e, hac with
          | none, _ => exact ⟨gy.1, by have := gy.2; omega⟩
          | some r9, hac =>
            obtain ⟨h1, h2⟩ := x_and hac
            have := zle_le h1
            have := zle_le h2
            exact ⟨by have := gy.1; omega, by have := gy.2; omega⟩
        cases hbw : Nat.ble w kh with
        | true =>
          rw [hbw] at h
          have := Nat.le_of_ble_eq_true hbw
          exact hg D hD m hm n0 σ0 Fc cs ss k ρ G Q hB hkk hρ _ h σ L _ _ (key w (Nat.le_refl _) this g3.2.2)
        | false =>
          rw [hbw] at h
          have hlt2 : kh ≤ w := by
            rcases Nat.lt_or_ge kh w with q9 | q9
            · omega
            · rw [Nat.ble_eq_true_of_le q9] at hbw
              cases hbw
          exact hg D hD m hm n0 σ0 Fc cs ss k ρ G Q hB hkk hρ _ h σ L _ _ (key kh hlt2 (Nat.le_refl _) (by have := g3.2.2; omega))
    · cases h
  · cases h
end XAR
