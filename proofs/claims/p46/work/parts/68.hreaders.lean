/-! isNew, people, things, valley of the reference, by hand, printed by wip/x/h_xyreaders.py -/
/-- what is kept is no newer than the changes -/
def xKC (n : Nat) (ph : pm_H) : Prop := ∃ C : Int32, xget ph 170 7 = some (.int C) ∧ 0 ≤ C.toInt ∧ C.toInt ≤ n ∧ ∀ i, i < 3 → ∀ y : Int32, xgb ph 198 i y → y.toInt ≠ 0 → ∃ K : Int32, xget ph 199 i = some (.int K) ∧ K.toInt ≤ C.toInt
def xnow (ph : pm_H) : Prop := ∃ W P T : Int32, (xget ph 170 4 = some (.int W) ∧ xget ph 170 5 = some (.int P) ∧ xget ph 170 6 = some (.int T)) ∧ (P.toInt ≤ 8 ∧ T.toInt ≤ 8) ∧ xgr ph W P T 174 0
set_option maxRecDepth 6000 in
theorem xKC_of {n : Nat} {ph : pm_H} (h : xINV n ph) : xKC n ph := by
  obtain ⟨W, P, T, U, C, ⟨f1, f2, f3, f4, f5⟩, ⟨b1, b2, b3, b4⟩, g1, g2, g3⟩ := h
  exact ⟨C, f5, b3, b4, fun i hi y hy h0 => by obtain ⟨K, k1, k2, -⟩ := g3 i hi y hy h0; exact ⟨K, k1, k2⟩⟩
set_option maxRecDepth 6000 in
theorem xnow_of {n : Nat} {ph : pm_H} (h : xINV n ph) : xnow ph := by
  obtain ⟨W, P, T, U, C, ⟨f1, f2, f3, f4, f5⟩, ⟨b1, b2, b3, b4⟩, g1, g2, g3⟩ := h
  exact ⟨W, P, T, ⟨f1, f2, f3⟩, ⟨b1, b2⟩, g1⟩
def xgA_VT : List Nat := [9, 6, 3, 23, 24, 45, 49, 50, 54, 47, 62, 65, 66, 33, 34, 35, 36, 37, 39, 40, 41, 42, 43, 105, 106, 107, 108, 109, 111, 112, 113, 114, 115, 117, 118, 119, 120, 121, 78, 83, 59, 60, 51, 52]
def xgF_VT : List (Nat × Nat) := (0, 14) :: [(0, 23), (44, 1), (0, 8), (31, 13), (31, 14), (32, 0), (32, 1), (32, 2), (32, 3), (32, 4), (32, 5), (32, 6), (32, 7), (38, 0), (38, 1), (38, 2), (38, 3), (38, 4), (38, 5), (38, 6), (38, 7), (46, 1), (48, 0), (48, 1), (48, 2), (48, 3), (48, 4), (53, 4), (58, 0), (58, 1), (58, 2), (58, 3), (58, 4), (61, 2), (64, 2), (77, 1), (77, 3), (77, 5), (77, 6), (77, 7), (82, 1), (82, 3), (82, 5), (82, 6), (82, 7), (104, 0), (104, 1), (104, 2), (104, 3), (104, 4), (104, 5), (104, 6), (104, 7), (110, 0), (110, 1), (110, 2), (110, 3), (110, 4), (110, 5), (110, 6), (110, 7), (116, 0), (116, 1), (116, 2), (116, 3), (116, 4), (116, 5), (116, 6), (116, 7), (53, 1), (53, 2), (63, 2), (63, 3)]
def xgF_VU : List (Nat × Nat) := [(0, 23), (44, 1), (0, 8), (31, 13), (31, 14), (32, 0), (32, 1), (32, 2), (32, 3), (32, 4), (32, 5), (32, 6), (32, 7), (38, 0), (38, 1), (38, 2), (38, 3), (38, 4), (38, 5), (38, 6), (38, 7), (46, 1), (48, 0), (48, 1), (48, 2), (48, 3), (48, 4), (53, 4), (58, 0), (58, 1), (58, 2), (58, 3), (58, 4), (61, 2), (64, 2), (77, 1), (77, 3), (77, 5), (77, 6), (77, 7), (82, 1), (82, 3), (82, 5), (82, 6), (82, 7), (104, 0), (104, 1), (104, 2), (104, 3), (104, 4), (104, 5), (104, 6), (104, 7), (110, 0), (110, 1), (110, 2), (110, 3), (110, 4), (110, 5), (110, 6), (110, 7), (116, 0), (116, 1), (116, 2), (116, 3), (116, 4), (116, 5), (116, 6), (116, 7), (53, 1), (53, 2), (63, 2), (63, 3)]
set_option maxRecDepth 6000 in
theorem xHEVT : xHE xX xgA_VT xgF_VT xV := xHE_sub (by decide +kernel) (by decide +kernel) xHEV
set_option maxRecDepth 6000 in
theorem xHE_VU {R : pm_H → Prop} (hR : xHE xX xgA_VT xgF_VU R) : xHE xX xgA_VT xgF_VT R := xHE_sub (by decide +kernel) (by decide +kernel) hR
def xgA_KC : List Nat := [28, 29]
def xgF_KC : List (Nat × Nat) := [(0, 7)]
set_option maxRecDepth 6000 in
theorem xHEKC (n : Nat) : xHE xX xgA_KC xgF_KC (xKC n) := by
  intro ph ph' hs ⟨C, h1, h2, h3, h4⟩
  refine ⟨C, (hs.2 170 0 7 rfl (by decide)).symm.trans h1, h2, h3, fun i hi y hy h0 => ?_⟩
  obtain ⟨K, k1, k2⟩ := h4 i hi y (xgb_eq (hs.1 198 28 rfl (by decide)).symm hy) h0
  exact ⟨K, (xget_at (hs.1 199 29 rfl (by decide)).symm i).trans k1, k2⟩
set_option maxRecDepth 6000 in
theorem xINV_mk {n : Nat} {ph ph' : pm_H} {C C' U : Int32} (h : xKC n ph) (hC : xget ph 170 7 = some (.int C)) (hn : xnow ph') (h27 : xget ph' 170 27 = some (.int U)) (hU : U.toInt ≤ 0) (h7 : xget ph' 170 7 = some (.int C')) (e : C'.toInt = C.toInt + 1) (a1 : pm_at ph' 198 = pm_at ph 198) (a2 : pm_at ph' 199 = pm_at ph 199) : xINV (n + 1) ph' := by
  obtain ⟨C2, c1, c2, c3, c4⟩ := h
  have e2 := xget_int hC c1
  subst e2
  obtain ⟨W, P, T, ⟨f1, f2, f3⟩, ⟨b1, b2⟩, g1⟩ := hn
  refine ⟨W, P, T, U, C', ⟨f1, f2, f3, h27, h7⟩, ⟨b1, b2, by omega, by omega⟩, g1, fun u hu => absurd hu (by omega), fun i hi y hy h0 => ?_⟩
  obtain ⟨K, k1, k2⟩ := c4 i hi y (xgb_eq a1 hy) h0
  exact ⟨K, (xget_at a2 i).trans k1, by omega, fun q => absurd q (by omega)⟩
set_option maxRecDepth 6000 in
theorem xINV_get {n : Nat} {ph ph' : pm_H} (h : xINV n ph) (hf : ∀ b c, xget ph' b c = xget ph b c) (ha : ∀ a, a ≠ 170 → pm_at ph' a = pm_at ph a) : xINV n ph' := xHEI n ph ph' ⟨fun a i ho hi => (ha a (fun e => by
  subst e
  have h9 : xown 170 = some i := ho
  rw [show xown 170 = some 0 from rfl] at h9
  cases h9
  exact absurd hi (by decide))).symm, fun a i k _ _ => (hf a k).symm⟩ h
set_option maxRecDepth 6000 in
theorem xu1_same {ph ph' : pm_H} {a k : Nat} {v : Value} (u : xu1 ph ph' a k v) (h : xget ph a k = some v) : ∀ b c, xget ph' b c = xget ph b c := fun b c => by
  by_cases q : b = a ∧ c = k
  · obtain ⟨e1, e2⟩ := q
    subst e1 e2
    rw [u.1, h]
  · exact u.2.1 b c q
set_option maxRecDepth 6000 in
/-- a write that is none of a position now, nor of what counts them -/
theorem xnow_u {ph ph' : pm_H} {a k : Nat} {v : Value} (u : xu1 ph ph' a k v) (hk : (a ≠ 170 ∧ a ≠ 174) ∨ (a = 170 ∧ k ≠ 4 ∧ k ≠ 5 ∧ k ≠ 6) ∨ (a = 174 ∧ 8 ≤ k ∧ k < 32)) (h : xnow ph) : xnow ph' := by
  obtain ⟨W, P, T, ⟨f1, f2, f3⟩, ⟨b1, b2⟩, g1⟩ := h
  refine ⟨W, P, T, ⟨(u.2.1 170 4 (fun q => by omega)).trans f1, (u.2.1 170 5 (fun q => by omega)).trans f2, (u.2.1 170 6 (fun q => by omega)).trans f3⟩, ⟨b1, b2⟩, xgr_eq b1 b2 (fun c hc => u.2.1 174 _ (fun q => by omega)) g1⟩
set_option maxRecDepth 6000 in
/-- a good position is put -/
theorem xnow_p {ph ph' : pm_H} {k : Nat} {y : Int32} (u : xu1 ph ph' 174 k (.int y)) (hy : y.toInt ≠ 48 ∨ ∃ W : Int32, xget ph 170 4 = some (.int W) ∧ W.toInt = 7) (h : xnow ph) : xnow ph' := by
  obtain ⟨W, P, T, ⟨f1, f2, f3⟩, ⟨b1, b2⟩, g1⟩ := h
  refine ⟨W, P, T, ⟨(u.2.1 170 4 (fun q => absurd q.1 (by decide))).trans f1, (u.2.1 170 5 (fun q => absurd q.1 (by decide))).trans f2, (u.2.1 170 6 (fun q => absurd q.1 (by decide))).trans f3⟩, ⟨b1, b2⟩, ?_⟩
  rcases hy with hy | ⟨W2, w1, w2⟩
  · rcases g1 with g | g
    · exact Or.inl g
    · refine Or.inr fun c x hc hx => ?_
      by_cases e : 0 + c = k
      · rw [e, u.1] at hx
        cases hx
        exact hy
      · rw [u.2.1 174 (0 + c) (fun q => e q.2)] at hx
        exact g c x hc hx
  · have e := xget_int f1 w1
    subst e
    exact Or.inl w2
set_option maxRecDepth 6000 in
/-- one more who is there, or one more thing -/
theorem xnow_n {ph ph' : pm_H} {P P' x : Int32} {s k : Nat} (hs : (s = 0 ∧ k = 5) ∨ (s = 32 ∧ k = 6)) (u : xu1 ph ph' 170 k (.int P')) (hP : xget ph 170 k = some (.int P)) (e : P'.toInt = P.toInt + 1) (h0 : 0 ≤ P.toInt) (h8 : P'.toInt ≤ 8) (hx : xget ph 174 (s + P.toInt.toNat) = some (.int x)) (hy : x.toInt ≠ 48 ∨ ∃ W : Int32, xget ph 170 4 = some (.int W) ∧ W.toInt = 7) (h : xnow ph) : xnow ph' := by
  obtain ⟨W, P2, T, ⟨f1, f2, f3⟩, ⟨b1, b2⟩, g1⟩ := h
  have ha : ∀ i, xget ph' 174 i = xget ph 174 i := fun i => u.2.1 174 i (fun q => absurd q.1 (by decide))
  rcases hs with ⟨rfl, rfl⟩ | ⟨rfl, rfl⟩
  · have e2 := xget_int f2 hP
    subst e2
    refine ⟨W, P', T, ⟨(u.2.1 170 4 (fun q => absurd q.2 (by decide))).trans f1, u.1, (u.2.1 170 6 (fun q => absurd q.2 (by decide))).trans f3⟩, ⟨h8, b2⟩, ?_⟩
    rcases hy with hy | ⟨W2, w1, w2⟩
    · rcases g1 with g | g
      · exact Or.inl g
      · refine Or.inr fun c z hc hz => ?_
        rw [ha] at hz
        by_cases q : c = P2.toInt.toNat
        · subst q
          rw [hx] at hz
          cases hz
          exact hy
        · exact g c z (by omega) hz
    · have e := xget_int f1 w1
      subst e
      exact Or.inl w2
  · have e2 := xget_int f3 hP
    subst e2
    refine ⟨W, P2, P', ⟨(u.2.1 170 4 (fun q => absurd q.2 (by decide))).trans f1, (u.2.1 170 5 (fun q => absurd q.2 (by decide))).trans f2, u.1⟩, ⟨b1, h8⟩, ?_⟩
    rcases hy with hy | ⟨W2, w1, w2⟩
    · rcases g1 with g | g
      · exact Or.inl g
      · refine Or.inr fun c z hc hz => ?_
        rw [ha] at hz
        by_cases q : c = 32 + T.toInt.toNat
        · subst q
          rw [Nat.zero_add, hx] at hz
          cases hz
          exact hy
        · exact g c z (by omega) hz
    · have e := xget_int f1 w1
      subst e
      exact Or.inl w2
def xfb (fs : List (Nat × xh)) (k : Nat) : Option (Int × Int) := match fs with
  | [] => none
  | (k2, h) :: r => bif Nat.beq k2 k then (match h with
    | .inl p => some p
    | _ => none) else xfb r k
set_option maxRecDepth 6000 in
theorem xfb_ok {k : Nat} {p : Int × Int} : ∀ {fs : List (Nat × xh)}, xfb fs k = some p → (k, Sum.inl p) ∈ fs := by
  intro fs
  induction fs with
  | nil => intro h; cases h
  | cons q r ih =>
    intro h
    obtain ⟨k2, h2⟩ := q
    unfold xfb at h
    cases hb : Nat.beq k2 k with
    | true =>
      rw [hb] at h
      have e := Nat.eq_of_beq_eq_true hb
      subst e
      simp only [cond_true] at h
      split at h
      · cases h
        exact List.mem_cons_self
      · cases h
    | false =>
      rw [hb] at h
      exact List.mem_cons_of_mem _ (ih h)
def xnok (f s : Nat) (fs : List (Nat × xh)) : Bool := match xfb fs 696340 with
  | some (c, c2) => bif (bif zeq c c2 then zle 0 c else false) then bif (match xfb fs (696320 + f) with
      | some (_, q) => zle (q + c) 8
      | none => zeq c 0) then (List.range c.toNat).all (fun t => match xfb fs (728 * 1000 + 1088 + s * t) with
      | some (l, h) => bif (bif zle 0 l then zle h 48 else false) then (bif zle h 47 then true else match xfb fs 696324 with
        | some (a, b) => bif zle 7 a then zle b 7 else false
        | none => false) else false
      | none => false) else false else false
  | none => false
set_option maxRecDepth 6000 in
theorem xnok_ok {f s : Nat} {fs : List (Nat × xh)} {m : Int} {ph : pm_H} (hf : f < 100) (hs : s < 4) (h : xnok f s fs = true) (hF : xhF xX m ph fs) : ∃ c : Int32, xget ph 170 20 = some (.int c) ∧ 0 ≤ c.toInt ∧ (∀ P : Int32, xget ph 170 f = some (.int P) → P.toInt + c.toInt ≤ 8 ∨ c.toInt = 0) ∧ ∀ t : Nat, (t : Int) < c.toInt → t < 24 → ∃ x : Int32, xget ph 178 (s * t) = some (.int x) ∧ 0 ≤ x.toInt ∧ x.toInt ≤ 48 ∧ (x.toInt ≠ 48 ∨ ∃ W : Int32, xget ph 170 4 = some (.int W) ∧ W.toInt = 7) := by
  unfold xnok at h
  split at h
  case h_2 => cases h
  next c0 c2 hc =>
  obtain ⟨h1, h2⟩ := x_and h
  obtain ⟨h3, h4⟩ := x_and h1
  obtain ⟨h5, h6⟩ := x_and h2
  have h3 := zeq_ok h3
  have h4 := zle_le h4
  subst h3
  obtain ⟨c, q1, q2, q3⟩ := xhF_get (c := 20) hF (xfb_ok hc) rfl rfl
  refine ⟨c, q1, by omega, fun P hP => ?_, fun t ht h24 => ?_⟩
  · split at h5
    · next l q hq =>
      obtain ⟨P2, p1, p2, p3⟩ := xhF_get (c := f) hF (xfb_ok hq) (by omega) (by omega)
      have e := xget_int hP p1
      subst e
      have h5 := zle_le h5
      exact Or.inl (by omega)
    · have h5 := zeq_ok h5
      exact Or.inr (by omega)
  · have h7 := List.all_eq_true.mp h6 t (List.mem_range.mpr (by omega))
    split at h7
    case h_2 => cases h7
    next l u hlu =>
    obtain ⟨h8, h9⟩ := x_and h7
    obtain ⟨h10, h11⟩ := x_and h8
    have h10 := zle_le h10
    have h11 := zle_le h11
    obtain ⟨-, -, v, x1, x, e, x2, x3⟩ := hF _ _ (xfb_ok hlu)
    subst e
    have k1 : (728 * 1000 + 1088 + s * t) / 4096 = 178 := by
      have : s * t < 4 * 24 := Nat.mul_lt_mul'' hs h24
      omega
    have k2 : (728 * 1000 + 1088 + s * t) % 4096 = s * t := by
      have : s * t < 4 * 24 := Nat.mul_lt_mul'' hs h24
      omega
    rw [k1, k2] at x1
    have x2 : l ≤ x.toInt := x2
    have x3 : x.toInt ≤ u := x3
    refine ⟨x, x1, by omega, by omega, ?_⟩
    cases hz : zle u 47 with
    | true =>
      have := zle_le hz
      exact Or.inl (by omega)
    | false =>
      rw [hz] at h9
      simp only [cond_false] at h9
      split at h9
      case h_2 => cases h9
      next a b hab =>
      obtain ⟨w1, w2⟩ := x_and h9
      have w1 := zle_le w1
      have w2 := zle_le w2
      obtain ⟨W, w3, w4, w5⟩ := xhF_get (c := 4) hF (xfb_ok hab) rfl rfl
      exact Or.inr ⟨W, w3, by omega⟩
set_option maxRecDepth 6000 in
theorem xs_lo {m : Int} {w k : Nat} {v : Int} (hk : k < 8 ∨ 32 ≤ k ∧ k < 40) (h0 : 0 ≤ v) (h1 : v ≤ 48) : xeG m w v (xat [(8, some ((Int.ofNat 0), (Int.ofNat 48))), (32, some ((Int.negSucc 2147483647), (Int.ofNat 2147483647))), (40, some ((Int.ofNat 0), (Int.ofNat 48))), (41, none)] (k % 41)) := by
  have hmod : k % 41 = k := Nat.mod_eq_of_lt (by omega)
  have h9 : xeG m w v (some ((0 : Int), (48 : Int))) := ⟨h0, h1⟩
  rw [hmod]
  rcases hk with hk | hk
  · have e1 : Nat.blt k 8 = true := Nat.ble_eq_true_of_le (by omega)
    unfold xat
    rw [e1]
    exact h9
  · have e1 : Nat.blt k 8 = false := by
      cases hq : Nat.blt k 8 with
      | false => rfl
      | true => have := Nat.le_of_ble_eq_true hq; omega
    have e2 : Nat.blt k 32 = false := by
      cases hq : Nat.blt k 32 with
      | false => rfl
      | true => have := Nat.le_of_ble_eq_true hq; omega
    have e3 : Nat.blt k 40 = true := Nat.ble_eq_true_of_le (by omega)
    unfold xat
    rw [e1]
    simp only [cond_false]
    unfold xat
    rw [e2]
    simp only [cond_false]
    unfold xat
    rw [e3]
    exact h9
set_option maxRecDepth 6000 in
theorem xs_mid {m : Int} {w k : Nat} {y : Int32} (h1 : 8 ≤ k) (h2 : k < 32) : xeG m w y.toInt (xat [(8, some ((Int.ofNat 0), (Int.ofNat 48))), (32, some ((Int.negSucc 2147483647), (Int.ofNat 2147483647))), (40, some ((Int.ofNat 0), (Int.ofNat 48))), (41, none)] (k % 41)) := by
  have hmod : k % 41 = k := Nat.mod_eq_of_lt (by omega)
  have h9 : xeG m w y.toInt (some ((Int.negSucc 2147483647), (Int.ofNat 2147483647))) := ⟨x32_lo y, x32_hi y⟩
  rw [hmod]
  have e1 : Nat.blt k 8 = false := by
    cases hq : Nat.blt k 8 with
    | false => rfl
    | true => have := Nat.le_of_ble_eq_true hq; omega
  have e2 : Nat.blt k 32 = true := Nat.ble_eq_true_of_le (by omega)
  unfold xat
  rw [e1]
  simp only [cond_false]
  unfold xat
  rw [e2]
  exact h9
set_option maxRecDepth 6000 in
theorem xiinc2 {a : Value} {o1 : Option Value} {i : Int32} : ∃ o2, pm_store (.iinc 2 1) [some a, o1, some (.int i)] [] = some ([some a, o2, some (.int (i + Int32.ofInt 1))], [], 3) := by
  cases o1 with
  | none => exact ⟨_, rfl⟩
  | some v => cases v <;> exact ⟨_, rfl⟩
set_option maxRecDepth 6000 in
theorem xi0 : (Int32.ofInt 0).toInt = 0 := by decide
set_option maxRecDepth 6000 in
theorem xi2 : (Int32.ofInt 2).toInt = 2 := by decide
set_option maxRecDepth 6000 in
theorem xi3 : (Int32.ofInt 3).toInt = 3 := by decide
set_option maxRecDepth 6000 in
theorem x8 : ((Int8.ofInt 8).toInt32).toInt = 8 := by decide
set_option maxRecDepth 6000 in
theorem x16 : ((Int8.ofInt 16).toInt32).toInt = 16 := by decide
set_option maxRecDepth 6000 in
theorem x24 : ((Int8.ofInt 24).toInt32).toInt = 24 := by decide
set_option maxRecDepth 6000 in
theorem x32 : ((Int8.ofInt 32).toInt32).toInt = 32 := by decide

set_option maxRecDepth 6000 in
theorem xisNew {R : pm_H → Prop} (hR : xHE xX xgA_VT xgF_VT R) {m : Int} {w D n : Nat} (hn : n ≤ 1000000) (hD : 2 ≤ D) {ph : pm_H} {c : Int32} (hP : xH xX kK m w ph) (g9 : xV ph ∧ R ph) (hc : xget ph 170 20 = some (.int c)) (hI : (c.toInt ≤ 0 ∧ xINV n ph) ∨ (0 < c.toInt ∧ xKC n ph ∧ xnow ph)) : ∃ v ph', pm_Rd kK false D 207 [.ref 170] ph (v, ph', 0, 0) ∧ (∃ r : Int32, v = some (.int r) ∧ xH xX kK m w ph' ∧ (xV ph' ∧ R ph') ∧ xINV (n + 1) ph') := by
  obtain ⟨D', rfl⟩ : ∃ D', D = D' + 1 + 1 := ⟨D - 2, by omega⟩
  have hEVR := xHE_and xHEVT hR
  obtain ⟨U, hU, hU0, hU1⟩ := xM_fi (k := 27) hP rfl
  obtain ⟨C, hC, hCl⟩ : ∃ C : Int32, xget ph 170 7 = some (.int C) ∧ 0 ≤ C.toInt ∧ C.toInt ≤ n := by
    rcases hI with ⟨-, h⟩ | ⟨-, h, -⟩
    · obtain ⟨C, h1, h2, h3, -⟩ := xKC_of h
      exact ⟨C, h1, h2, h3⟩
    · obtain ⟨C, h1, h2, h3, -⟩ := h
      exact ⟨C, h1, h2, h3⟩
  refine xRd_mk (nl := 1) rfl rfl ?_
  show xGT kK (D' + 1) 207 _ (0, [some (.ref 170)], [], ph, 0, 0)
  rcases hI with ⟨hc0, hI⟩ | ⟨hc0, hK, hN⟩
  · refine gt_load (v := .ref 170) (n := 1) (ykc_207 (e := (2, .aload_n kF0, 0)) rfl) rfl rfl ?_
    refine gt_load (v := .ref 170) (n := 1) (ykc_207 (e := (2, .aload_n kF0, 0)) rfl) rfl rfl ?_
    refine gt_gfk (v := .int c) (ykc_207 (e := (5, .getfield 197, 0)) rfl) rfl hP hc rfl ?_
    refine gt_zle_t (ykc_207 (e := (4, .ifCond .le 7, 12)) rfl) hc0 ?_
    refine gt_load (v := .ref 170) (n := 1) (ykc_207 (e := (2, .aload_n kF0, 0)) rfl) rfl rfl ?_
    refine gt_gfk (v := .int U) (ykc_207 (e := (5, .getfield 188, 0)) rfl) rfl hP hU rfl ?_
    refine gt_pf (y := U) (ykc_207 (e := (5, .putfield 188, 0)) rfl) rfl hP rfl rfl hU0 hU1 rfl (fun ph101 hP101 u101 => ?_)
    have f101_20 : xget ph101 170 20 = some (.int c) := (u101.2.1 170 20 (by decide)).trans hc
    have f101_7 : xget ph101 170 7 = some (.int C) := (u101.2.1 170 7 (by decide)).trans hC
    refine gt_load (v := .ref 170) (n := 1) (ykc_207 (e := (2, .aload_n kF0, 0)) rfl) rfl rfl ?_
    refine gt_alu (st' := [.ref 170, .ref 170]) (ykc_207 (e := (0, .dup, 0)) rfl) rfl rfl ?_
    refine gt_gfk (v := .int C) (ykc_207 (e := (5, .getfield 191, 0)) rfl) rfl hP101 f101_7 rfl ?_
    refine gt_load (v := .ref 170) (n := 1) (ykc_207 (e := (2, .aload_n kF0, 0)) rfl) rfl rfl ?_
    refine gt_gfk (v := .int c) (ykc_207 (e := (5, .getfield 197, 0)) rfl) rfl hP101 f101_20 rfl ?_
    refine gt_zle_t (ykc_207 (e := (4, .ifCond .le 7, 35)) rfl) hc0 ?_
    refine gt_alu (st' := [.int (Int32.ofInt 0), .int C, .ref 170]) (ykc_207 (e := (0, .iconst 0, 0)) rfl) rfl rfl ?_
    refine gt_cs (n := 1) (as := [.int (Int32.ofInt 0)]) (r := [.int C, .ref 170]) (ykc_207 (e := (6, .invokestatic 154, 0)) rfl) rfl rfl rfl rfl (xflag (D := D')) rfl (fun vv ph102 hv => ?_)
    obtain ⟨z, e9, e8, z_s⟩ := hv; subst e9; have e7 := e8.symm; subst e7
    have zs0 : z.toInt = 0 := by rw [z_s]; decide
    change xGT kK (D' + 1) 207 _ (39, [some (.ref 170)], [.int z, .int C, .ref 170], ph101, 0, 0)
    obtain ⟨C1, e_C1, h_C1⟩ : ∃ zq : Int32, C + z = zq ∧ zq.toInt = C.toInt := ⟨_, rfl, by rw [ti_add (by rw [zs0]; omega) (by rw [zs0]; omega), zs0]; omega⟩
    refine gt_alu (st' := [.int C1, .ref 170]) (ykc_207 (e := (0, .iadd, 0)) rfl) (by rw [← e_C1]; exact rfl) rfl ?_
    refine gt_pf (y := C1) (ykc_207 (e := (5, .putfield 191, 0)) rfl) rfl hP101 rfl rfl (x32_lo _) (x32_hi _) rfl (fun ph103 hP103 u103 => ?_)
    have f103_20 : xget ph103 170 20 = some (.int c) := (u103.2.1 170 20 (by decide)).trans f101_20
    have f103_27 : xget ph103 170 27 = some (.int U) := (u103.2.1 170 27 (by decide)).trans u101.1
    refine gt_load (v := .ref 170) (n := 1) (ykc_207 (e := (2, .aload_n kF0, 0)) rfl) rfl rfl ?_
    refine gt_gfk (v := .int c) (ykc_207 (e := (5, .getfield 197, 0)) rfl) rfl hP103 f103_20 rfl ?_
    refine gt_ret (ykc_207 (e := (7, .ireturn, 0)) rfl) rfl ?_
    have i1 : xINV n ph101 := xINV_27 hI u101 (fun U2 h2 k hk => by
      have e9 := xget_int hU h2
      subst e9
      exact hk)
    have e9 : C1 = C := Int32.toInt_inj.mp h_C1
    subst e9
    have i2 := xINV_get i1 (xu1_same u103 ((u101.2.1 170 7 (fun q => absurd q.2 (by decide))).trans hC)) u103.2.2
    exact ⟨c, rfl, hP103, xu1_E hEVR u103 rfl rfl rfl (xu1_E hEVR u101 rfl rfl rfl g9), xINV_le (Nat.le_succ n) i2⟩
  · refine gt_load (v := .ref 170) (n := 1) (ykc_207 (e := (2, .aload_n kF0, 0)) rfl) rfl rfl ?_
    refine gt_load (v := .ref 170) (n := 1) (ykc_207 (e := (2, .aload_n kF0, 0)) rfl) rfl rfl ?_
    refine gt_gfk (v := .int c) (ykc_207 (e := (5, .getfield 197, 0)) rfl) rfl hP hc rfl ?_
    refine gt_zle_f (ykc_207 (e := (4, .ifCond .le 7, 12)) rfl) hc0 rfl ?_
    refine gt_alu (st' := [.int (Int32.ofInt 0), .ref 170]) (ykc_207 (e := (0, .iconst 0, 0)) rfl) rfl rfl ?_
    refine gt_br (pc' := 16) (st' := [.int (Int32.ofInt 0), .ref 170]) (ykc_207 (e := (4, .goto 7, 16)) rfl) rfl ?_
    refine gt_pf (y := Int32.ofInt 0) (ykc_207 (e := (5, .putfield 188, 0)) rfl) rfl hP rfl rfl (by decide) (by decide) rfl (fun ph101 hP101 u101 => ?_)
    have f101_20 : xget ph101 170 20 = some (.int c) := (u101.2.1 170 20 (by decide)).trans hc
    have f101_7 : xget ph101 170 7 = some (.int C) := (u101.2.1 170 7 (by decide)).trans hC
    refine gt_load (v := .ref 170) (n := 1) (ykc_207 (e := (2, .aload_n kF0, 0)) rfl) rfl rfl ?_
    refine gt_alu (st' := [.ref 170, .ref 170]) (ykc_207 (e := (0, .dup, 0)) rfl) rfl rfl ?_
    refine gt_gfk (v := .int C) (ykc_207 (e := (5, .getfield 191, 0)) rfl) rfl hP101 f101_7 rfl ?_
    refine gt_load (v := .ref 170) (n := 1) (ykc_207 (e := (2, .aload_n kF0, 0)) rfl) rfl rfl ?_
    refine gt_gfk (v := .int c) (ykc_207 (e := (5, .getfield 197, 0)) rfl) rfl hP101 f101_20 rfl ?_
    refine gt_zle_f (ykc_207 (e := (4, .ifCond .le 7, 35)) rfl) hc0 rfl ?_
    refine gt_alu (st' := [.int (Int32.ofInt 1), .int C, .ref 170]) (ykc_207 (e := (0, .iconst 1, 0)) rfl) rfl rfl ?_
    refine gt_br (pc' := 36) (st' := [.int (Int32.ofInt 1), .int C, .ref 170]) (ykc_207 (e := (4, .goto 4, 36)) rfl) rfl ?_
    refine gt_cs (n := 1) (as := [.int (Int32.ofInt 1)]) (r := [.int C, .ref 170]) (ykc_207 (e := (6, .invokestatic 154, 0)) rfl) rfl rfl rfl rfl (xflag (D := D')) rfl (fun vv ph102 hv => ?_)
    obtain ⟨z, e9, e8, z_s⟩ := hv; subst e9; have e7 := e8.symm; subst e7
    have zs1 : z.toInt = 1 := by rw [z_s]; decide
    change xGT kK (D' + 1) 207 _ (39, [some (.ref 170)], [.int z, .int C, .ref 170], ph101, 0, 0)
    obtain ⟨C1, e_C1, h_C1⟩ : ∃ zq : Int32, C + z = zq ∧ zq.toInt = C.toInt + 1 := ⟨_, rfl, by rw [ti_add (by rw [zs1]; omega) (by rw [zs1]; omega), zs1]⟩
    refine gt_alu (st' := [.int C1, .ref 170]) (ykc_207 (e := (0, .iadd, 0)) rfl) (by rw [← e_C1]; exact rfl) rfl ?_
    refine gt_pf (y := C1) (ykc_207 (e := (5, .putfield 191, 0)) rfl) rfl hP101 rfl rfl (x32_lo _) (x32_hi _) rfl (fun ph103 hP103 u103 => ?_)
    have f103_20 : xget ph103 170 20 = some (.int c) := (u103.2.1 170 20 (by decide)).trans f101_20
    have f103_27 : xget ph103 170 27 = some (.int (Int32.ofInt 0)) := (u103.2.1 170 27 (by decide)).trans u101.1
    refine gt_load (v := .ref 170) (n := 1) (ykc_207 (e := (2, .aload_n kF0, 0)) rfl) rfl rfl ?_
    refine gt_gfk (v := .int c) (ykc_207 (e := (5, .getfield 197, 0)) rfl) rfl hP103 f103_20 rfl ?_
    refine gt_ret (ykc_207 (e := (7, .ireturn, 0)) rfl) rfl ?_
    have n1 := xnow_u u103 (Or.inr (Or.inl ⟨rfl, by decide, by decide, by decide⟩)) (xnow_u u101 (Or.inr (Or.inl ⟨rfl, by decide, by decide, by decide⟩)) hN)
    have i2 := xINV_mk hK hC n1 ((u103.2.1 170 27 (fun q => absurd q.2 (by decide))).trans u101.1) (by rw [xi0]; decide) u103.1 h_C1 ((u103.2.2 198 (by decide)).trans (u101.2.2 198 (by decide))) ((u103.2.2 199 (by decide)).trans (u101.2.2 199 (by decide)))
    exact ⟨c, rfl, hP103, xu1_E hEVR u103 rfl rfl rfl (xu1_E hEVR u101 rfl rfl rfl g9), i2⟩

set_option maxRecDepth 6000 in
theorem xpeople_loop {R : pm_H → Prop} (hR : xHE xX xgA_VT xgF_VT R) {m : Int} {D n : Nat} {Q : Option Value → pm_H → Prop} {c : Int32} (hc9 : c.toInt ≤ 8) (hend : ∀ (ph : pm_H) (o1 : Option Value) (i : Int32), xH xX kK m 0 ph → xV ph ∧ R ph → xKC n ph → xnow ph → xget ph 170 20 = some (.int c) → xGT kK D 208 Q (119, [some (.ref 170), o1, some (.int i)], [], ph, 0, 0)) : ∀ (s : Nat) (ph : pm_H) (o1 : Option Value) (i P : Int32), c.toInt - i.toInt < s → 0 ≤ i.toInt → i.toInt ≤ c.toInt → 0 ≤ P.toInt → (P.toInt + (c.toInt - i.toInt) ≤ 8) → xH xX kK m 0 ph → xV ph ∧ R ph → xKC n ph → xnow ph → xget ph 170 20 = some (.int c) → xget ph 170 5 = some (.int P) → (∀ t : Nat, i.toInt ≤ (t : Int) → (t : Int) < c.toInt → ∃ x : Int32, xget ph 178 (3 * t) = some (.int x) ∧ 0 ≤ x.toInt ∧ x.toInt ≤ 48 ∧ (x.toInt ≠ 48 ∨ ∃ W : Int32, xget ph 170 4 = some (.int W) ∧ W.toInt = 7)) → xGT kK D 208 Q (21, [some (.ref 170), o1, some (.int i)], [], ph, 0, 0) := by
  have hEVR := xHE_and xHEVT hR
  intro s
  induction s with
  | zero => intro ph o1 i P h; omega
  | succ s ih =>
    intro ph o1 i P hs hi0 hic9 hP0 hP8 hP g9 hK hN hc hp hrd
    by_cases hic : i.toInt < c.toInt
    · obtain ⟨x, gx1, gx2, gx3, gx4⟩ := hrd i.toInt.toNat (by omega) (by omega)
      obtain ⟨lr, hlr, -, -⟩ := xA_at (A := 178) hP rfl rfl
      refine gt_load (v := .int i) (n := 1) (ykc_208 (e := (2, .iload_n kF2, 0)) rfl) rfl rfl ?_
      refine gt_load (v := .ref 170) (n := 1) (ykc_208 (e := (2, .aload_n kF0, 0)) rfl) rfl rfl ?_
      refine gt_gfk (v := .int c) (ykc_208 (e := (5, .getfield 197, 0)) rfl) rfl hP hc rfl ?_
      refine gt_ige_f (ykc_208 (e := (4, .if_icmp .ge 93, 119)) rfl) hic rfl ?_
      refine gt_load (v := .ref 170) (n := 1) (ykc_208 (e := (2, .aload_n kF0, 0)) rfl) rfl rfl ?_
      refine gt_gfr (A := 174) (ykc_208 (e := (5, .getfield 41, 0)) rfl) rfl hP rfl rfl rfl ?_
      refine gt_load (v := .ref 170) (n := 1) (ykc_208 (e := (2, .aload_n kF0, 0)) rfl) rfl rfl ?_
      refine gt_gfk (v := .int P) (ykc_208 (e := (5, .getfield 130, 0)) rfl) rfl hP hp rfl ?_
      refine gt_load (v := .ref 170) (n := 1) (ykc_208 (e := (2, .aload_n kF0, 0)) rfl) rfl rfl ?_
      refine gt_gfr (A := 178) (ykc_208 (e := (5, .getfield 53, 0)) rfl) rfl hP rfl rfl rfl ?_
      refine gt_alu (st' := [.int (Int32.ofInt 3), .ref 178, .int P, .ref 174]) (ykc_208 (e := (0, .iconst 3, 0)) rfl) rfl rfl ?_
      refine gt_load (v := .int i) (n := 1) (ykc_208 (e := (2, .iload_n kF2, 0)) rfl) rfl rfl ?_
      obtain ⟨t3, e_t3, h_t3⟩ : ∃ zq : Int32, (Int32.ofInt 3) * i = zq ∧ zq.toInt = 3 * i.toInt := ⟨_, rfl, by rw [ti_mul (by rw [xi3]; omega) (by rw [xi3]; omega), xi3]⟩
      refine gt_alu (st' := [.int t3, .ref 178, .int P, .ref 174]) (ykc_208 (e := (0, .imul, 0)) rfl) (by rw [← e_t3]; exact rfl) rfl ?_
      have h_t3x : t3.toInt = ((3 * i.toInt.toNat : Nat) : Int) := by omega
      refine gt_ialk (y := x) (ykc_208 (e := (5, .iaload, 0)) rfl) gx1 ⟨lr, hlr⟩ h_t3x rfl ?_
      refine gt_ias (A := 174) (y := x) (x := P) (ykc_208 (e := (5, .iastore, 0)) rfl) hP rfl rfl (by omega) (by omega) (xs_lo (Or.inl (by omega)) gx2 gx3) rfl (fun ph101 hP101 u101 => ?_)
      have f101_20 : xget ph101 170 20 = some (.int c) := (u101.2.1 170 20 (fun q => absurd q.1 (by decide))).trans hc
      have f101_5 : xget ph101 170 5 = some (.int P) := (u101.2.1 170 5 (fun q => absurd q.1 (by decide))).trans hp
      refine gt_load (v := .ref 170) (n := 1) (ykc_208 (e := (2, .aload_n kF0, 0)) rfl) rfl rfl ?_
      refine gt_gfr (A := 174) (ykc_208 (e := (5, .getfield 41, 0)) rfl) rfl hP101 rfl rfl rfl ?_
      refine gt_push (v := .int ((Int8.ofInt 8).toInt32)) (n := 2) (ykc_208 (e := (1, .bipush 8, 0)) rfl) rfl rfl ?_
      refine gt_load (v := .ref 170) (n := 1) (ykc_208 (e := (2, .aload_n kF0, 0)) rfl) rfl rfl ?_
      refine gt_gfk (v := .int P) (ykc_208 (e := (5, .getfield 130, 0)) rfl) rfl hP101 f101_5 rfl ?_
      obtain ⟨a8, e_a8, h_a8⟩ : ∃ zq : Int32, ((Int8.ofInt 8).toInt32) + P = zq ∧ zq.toInt = 8 + P.toInt := ⟨_, rfl, by rw [ti_add (by rw [x8]; omega) (by rw [x8]; omega), x8]⟩
      refine gt_alu (st' := [.int a8, .ref 174]) (ykc_208 (e := (0, .iadd, 0)) rfl) (by rw [← e_a8]; exact rfl) rfl ?_
      refine gt_load (v := .ref 170) (n := 1) (ykc_208 (e := (2, .aload_n kF0, 0)) rfl) rfl rfl ?_
      refine gt_gfr (A := 178) (ykc_208 (e := (5, .getfield 53, 0)) rfl) rfl hP101 rfl rfl rfl ?_
      refine gt_alu (st' := [.int (Int32.ofInt 3), .ref 178, .int a8, .ref 174]) (ykc_208 (e := (0, .iconst 3, 0)) rfl) rfl rfl ?_
      refine gt_load (v := .int i) (n := 1) (ykc_208 (e := (2, .iload_n kF2, 0)) rfl) rfl rfl ?_
      obtain ⟨t4, e_t4, h_t4⟩ : ∃ zq : Int32, (Int32.ofInt 3) * i = zq ∧ zq.toInt = 3 * i.toInt := ⟨_, rfl, by rw [ti_mul (by rw [xi3]; omega) (by rw [xi3]; omega), xi3]⟩
      refine gt_alu (st' := [.int t4, .ref 178, .int a8, .ref 174]) (ykc_208 (e := (0, .imul, 0)) rfl) (by rw [← e_t4]; exact rfl) rfl ?_
      refine gt_alu (st' := [.int (Int32.ofInt 1), .int t4, .ref 178, .int a8, .ref 174]) (ykc_208 (e := (0, .iconst 1, 0)) rfl) rfl rfl ?_
      obtain ⟨t5, e_t5, h_t5⟩ : ∃ zq : Int32, t4 + (Int32.ofInt 1) = zq ∧ zq.toInt = 3 * i.toInt + 1 := ⟨_, rfl, by rw [ti_add (by rw [h_t4, xi1]; omega) (by rw [h_t4, xi1]; omega), h_t4, xi1]⟩
      refine gt_alu (st' := [.int t5, .ref 178, .int a8, .ref 174]) (ykc_208 (e := (0, .iadd, 0)) rfl) (by rw [← e_t5]; exact rfl) rfl ?_
      refine gt_ial (A := 178) (ykc_208 (e := (5, .iaload, 0)) rfl) hP101 rfl rfl (by omega) (by omega) rfl (fun y1 g_y1 b_y1 => ?_)
      refine gt_ias (A := 174) (y := y1) (x := a8) (ykc_208 (e := (5, .iastore, 0)) rfl) hP101 rfl rfl (by omega) (by omega) (xs_mid (by omega) (by omega)) rfl (fun ph102 hP102 u102 => ?_)
      have f102_20 : xget ph102 170 20 = some (.int c) := (u102.2.1 170 20 (fun q => absurd q.1 (by decide))).trans f101_20
      have f102_5 : xget ph102 170 5 = some (.int P) := (u102.2.1 170 5 (fun q => absurd q.1 (by decide))).trans f101_5
      refine gt_load (v := .ref 170) (n := 1) (ykc_208 (e := (2, .aload_n kF0, 0)) rfl) rfl rfl ?_
      refine gt_gfr (A := 174) (ykc_208 (e := (5, .getfield 41, 0)) rfl) rfl hP102 rfl rfl rfl ?_
      refine gt_push (v := .int ((Int8.ofInt 16).toInt32)) (n := 2) (ykc_208 (e := (1, .bipush 16, 0)) rfl) rfl rfl ?_
      refine gt_load (v := .ref 170) (n := 1) (ykc_208 (e := (2, .aload_n kF0, 0)) rfl) rfl rfl ?_
      refine gt_gfk (v := .int P) (ykc_208 (e := (5, .getfield 130, 0)) rfl) rfl hP102 f102_5 rfl ?_
      obtain ⟨a16, e_a16, h_a16⟩ : ∃ zq : Int32, ((Int8.ofInt 16).toInt32) + P = zq ∧ zq.toInt = 16 + P.toInt := ⟨_, rfl, by rw [ti_add (by rw [x16]; omega) (by rw [x16]; omega), x16]⟩
      refine gt_alu (st' := [.int a16, .ref 174]) (ykc_208 (e := (0, .iadd, 0)) rfl) (by rw [← e_a16]; exact rfl) rfl ?_
      refine gt_load (v := .ref 170) (n := 1) (ykc_208 (e := (2, .aload_n kF0, 0)) rfl) rfl rfl ?_
      refine gt_gfr (A := 178) (ykc_208 (e := (5, .getfield 53, 0)) rfl) rfl hP102 rfl rfl rfl ?_
      refine gt_alu (st' := [.int (Int32.ofInt 3), .ref 178, .int a16, .ref 174]) (ykc_208 (e := (0, .iconst 3, 0)) rfl) rfl rfl ?_
      refine gt_load (v := .int i) (n := 1) (ykc_208 (e := (2, .iload_n kF2, 0)) rfl) rfl rfl ?_
      obtain ⟨t6, e_t6, h_t6⟩ : ∃ zq : Int32, (Int32.ofInt 3) * i = zq ∧ zq.toInt = 3 * i.toInt := ⟨_, rfl, by rw [ti_mul (by rw [xi3]; omega) (by rw [xi3]; omega), xi3]⟩
      refine gt_alu (st' := [.int t6, .ref 178, .int a16, .ref 174]) (ykc_208 (e := (0, .imul, 0)) rfl) (by rw [← e_t6]; exact rfl) rfl ?_
      refine gt_alu (st' := [.int (Int32.ofInt 2), .int t6, .ref 178, .int a16, .ref 174]) (ykc_208 (e := (0, .iconst 2, 0)) rfl) rfl rfl ?_
      obtain ⟨t7, e_t7, h_t7⟩ : ∃ zq : Int32, t6 + (Int32.ofInt 2) = zq ∧ zq.toInt = 3 * i.toInt + 2 := ⟨_, rfl, by rw [ti_add (by rw [h_t6, xi2]; omega) (by rw [h_t6, xi2]; omega), h_t6, xi2]⟩
      refine gt_alu (st' := [.int t7, .ref 178, .int a16, .ref 174]) (ykc_208 (e := (0, .iadd, 0)) rfl) (by rw [← e_t7]; exact rfl) rfl ?_
      refine gt_ial (A := 178) (ykc_208 (e := (5, .iaload, 0)) rfl) hP102 rfl rfl (by omega) (by omega) rfl (fun y2 g_y2 b_y2 => ?_)
      refine gt_ias (A := 174) (y := y2) (x := a16) (ykc_208 (e := (5, .iastore, 0)) rfl) hP102 rfl rfl (by omega) (by omega) (xs_mid (by omega) (by omega)) rfl (fun ph103 hP103 u103 => ?_)
      have f103_20 : xget ph103 170 20 = some (.int c) := (u103.2.1 170 20 (fun q => absurd q.1 (by decide))).trans f102_20
      have f103_5 : xget ph103 170 5 = some (.int P) := (u103.2.1 170 5 (fun q => absurd q.1 (by decide))).trans f102_5
      refine gt_load (v := .ref 170) (n := 1) (ykc_208 (e := (2, .aload_n kF0, 0)) rfl) rfl rfl ?_
      refine gt_gfr (A := 174) (ykc_208 (e := (5, .getfield 41, 0)) rfl) rfl hP103 rfl rfl rfl ?_
      refine gt_push (v := .int ((Int8.ofInt 24).toInt32)) (n := 2) (ykc_208 (e := (1, .bipush 24, 0)) rfl) rfl rfl ?_
      refine gt_load (v := .ref 170) (n := 1) (ykc_208 (e := (2, .aload_n kF0, 0)) rfl) rfl rfl ?_
      refine gt_gfk (v := .int P) (ykc_208 (e := (5, .getfield 130, 0)) rfl) rfl hP103 f103_5 rfl ?_
      obtain ⟨a24, e_a24, h_a24⟩ : ∃ zq : Int32, ((Int8.ofInt 24).toInt32) + P = zq ∧ zq.toInt = 24 + P.toInt := ⟨_, rfl, by rw [ti_add (by rw [x24]; omega) (by rw [x24]; omega), x24]⟩
      refine gt_alu (st' := [.int a24, .ref 174]) (ykc_208 (e := (0, .iadd, 0)) rfl) (by rw [← e_a24]; exact rfl) rfl ?_
      refine gt_alu (st' := [.int (Int32.ofInt 0), .int a24, .ref 174]) (ykc_208 (e := (0, .iconst 0, 0)) rfl) rfl rfl ?_
      refine gt_ias (A := 174) (y := Int32.ofInt 0) (x := a24) (ykc_208 (e := (5, .iastore, 0)) rfl) hP103 rfl rfl (by omega) (by omega) (xs_mid (by omega) (by omega)) rfl (fun ph104 hP104 u104 => ?_)
      have f104_20 : xget ph104 170 20 = some (.int c) := (u104.2.1 170 20 (fun q => absurd q.1 (by decide))).trans f103_20
      have f104_5 : xget ph104 170 5 = some (.int P) := (u104.2.1 170 5 (fun q => absurd q.1 (by decide))).trans f103_5
      refine gt_load (v := .ref 170) (n := 1) (ykc_208 (e := (2, .aload_n kF0, 0)) rfl) rfl rfl ?_
      refine gt_alu (st' := [.ref 170, .ref 170]) (ykc_208 (e := (0, .dup, 0)) rfl) rfl rfl ?_
      refine gt_gfk (v := .int P) (ykc_208 (e := (5, .getfield 130, 0)) rfl) rfl hP104 f104_5 rfl ?_
      refine gt_alu (st' := [.int (Int32.ofInt 1), .int P, .ref 170]) (ykc_208 (e := (0, .iconst 1, 0)) rfl) rfl rfl ?_
      obtain ⟨P1, e_P1, h_P1⟩ : ∃ zq : Int32, P + (Int32.ofInt 1) = zq ∧ zq.toInt = P.toInt + 1 := ⟨_, rfl, by rw [ti_add (by rw [xi1]; omega) (by rw [xi1]; omega), xi1]⟩
      refine gt_alu (st' := [.int P1, .ref 170]) (ykc_208 (e := (0, .iadd, 0)) rfl) (by rw [← e_P1]; exact rfl) rfl ?_
      refine gt_pf (y := P1) (ykc_208 (e := (5, .putfield 130, 0)) rfl) rfl hP104 rfl rfl (show (0 : Int) ≤ P1.toInt by omega) (show P1.toInt ≤ 8 by omega) rfl (fun ph105 hP105 u105 => ?_)
      have f105_20 : xget ph105 170 20 = some (.int c) := (u105.2.1 170 20 (by decide)).trans f104_20
      obtain ⟨i1, e_i1, h_i1⟩ : ∃ zq : Int32, i + Int32.ofInt 1 = zq ∧ zq.toInt = i.toInt + 1 := ⟨_, rfl, by rw [ti_add (by rw [xi1]; omega) (by rw [xi1]; omega), xi1]⟩
      obtain ⟨o2, ho2⟩ := xiinc2 (a := .ref 170) (o1 := o1) (i := i)
      refine gt_store (L' := [some (.ref 170), o2, some (.int i1)]) (st' := []) (n := 3) (ykc_208 (e := (3, .iinc 2 1, 0)) rfl) (by rw [← e_i1]; exact ho2) rfl ?_
      refine gt_br (pc' := 21) (st' := []) (ykc_208 (e := (4, .goto (-95), 21)) rfl) rfl ?_
      have g101_ : xV ph101 ∧ R ph101 := xu1_E hEVR u101 rfl rfl (by rfl) g9
      have k101_ : xKC n ph101 := xu1_E (xHEKC n) u101 rfl rfl (by rfl) hK
      have n101_ : xnow ph101 := xnow_p u101 gx4 hN
      have g102_ : xV ph102 ∧ R ph102 := xu1_E hEVR u102 rfl rfl (by rfl) g101_
      have k102_ : xKC n ph102 := xu1_E (xHEKC n) u102 rfl rfl (by rfl) k101_
      have n102_ : xnow ph102 := xnow_u u102 (Or.inr (Or.inr ⟨rfl, by omega, by omega⟩)) n101_
      have g103_ : xV ph103 ∧ R ph103 := xu1_E hEVR u103 rfl rfl (by rfl) g102_
      have k103_ : xKC n ph103 := xu1_E (xHEKC n) u103 rfl rfl (by rfl) k102_
      have n103_ : xnow ph103 := xnow_u u103 (Or.inr (Or.inr ⟨rfl, by omega, by omega⟩)) n102_
      have g104_ : xV ph104 ∧ R ph104 := xu1_E hEVR u104 rfl rfl (by rfl) g103_
      have k104_ : xKC n ph104 := xu1_E (xHEKC n) u104 rfl rfl (by rfl) k103_
      have n104_ : xnow ph104 := xnow_u u104 (Or.inr (Or.inr ⟨rfl, by omega, by omega⟩)) n103_
      have g105_ : xV ph105 ∧ R ph105 := xu1_E hEVR u105 rfl rfl rfl g104_
      have k105_ : xKC n ph105 := xu1_E (xHEKC n) u105 rfl rfl rfl k104_
      have gw : x.toInt ≠ 48 ∨ ∃ W : Int32, xget ph104 170 4 = some (.int W) ∧ W.toInt = 7 := by
        rcases gx4 with q | ⟨W, w1, w2⟩
        · exact Or.inl q
        · exact Or.inr ⟨W, (u104.2.1 170 4 (fun q => absurd q.1 (by decide))).trans ((u103.2.1 170 4 (fun q => absurd q.1 (by decide))).trans ((u102.2.1 170 4 (fun q => absurd q.1 (by decide))).trans ((u101.2.1 170 4 (fun q => absurd q.1 (by decide))).trans (w1)))), w2⟩
      have gp : xget ph104 174 (0 + P.toInt.toNat) = some (.int x) := by
        have e9 : 0 + P.toInt.toNat = P.toInt.toNat := by omega
        rw [e9]
        exact (u104.2.1 174 _ (fun q => absurd q.2 (by omega))).trans ((u103.2.1 174 _ (fun q => absurd q.2 (by omega))).trans ((u102.2.1 174 _ (fun q => absurd q.2 (by omega))).trans (u101.1)))
      have n105_ : xnow ph105 := xnow_n (s := 0) (k := 5) (by decide) u105 ((u104.2.1 170 5 (fun q => absurd q.1 (by decide))).trans ((u103.2.1 170 5 (fun q => absurd q.1 (by decide))).trans ((u102.2.1 170 5 (fun q => absurd q.1 (by decide))).trans ((u101.2.1 170 5 (fun q => absurd q.1 (by decide))).trans (hp))))) h_P1 hP0 (by omega) gp gw n104_
      refine ih ph105 o2 i1 P1 (by omega) (by omega) (by omega) (by omega) (by omega) hP105 g105_ k105_ n105_ ((u105.2.1 170 20 (fun q => absurd q.2 (by decide))).trans ((u104.2.1 170 20 (fun q => absurd q.1 (by decide))).trans ((u103.2.1 170 20 (fun q => absurd q.1 (by decide))).trans ((u102.2.1 170 20 (fun q => absurd q.1 (by decide))).trans ((u101.2.1 170 20 (fun q => absurd q.1 (by decide))).trans (hc)))))) u105.1 (fun t ht1 ht2 => ?_)
      obtain ⟨x2, y1_, y2_, y3_, y4_⟩ := hrd t (by omega) ht2
      have e178 : ∀ z, xget ph105 178 z = xget ph 178 z := fun z => (u105.2.1 178 z (fun q => absurd q.1 (by decide))).trans <| (u104.2.1 178 z (fun q => absurd q.1 (by decide))).trans <| (u103.2.1 178 z (fun q => absurd q.1 (by decide))).trans <| (u102.2.1 178 z (fun q => absurd q.1 (by decide))).trans <| u101.2.1 178 z (fun q => absurd q.1 (by decide))
      refine ⟨x2, (e178 _).trans y1_, y2_, y3_, ?_⟩
      rcases y4_ with q | ⟨W, w1, w2⟩
      · exact Or.inl q
      · exact Or.inr ⟨W, (u105.2.1 170 4 (fun q => absurd q.2 (by decide))).trans ((u104.2.1 170 4 (fun q => absurd q.1 (by decide))).trans ((u103.2.1 170 4 (fun q => absurd q.1 (by decide))).trans ((u102.2.1 170 4 (fun q => absurd q.1 (by decide))).trans ((u101.2.1 170 4 (fun q => absurd q.1 (by decide))).trans (w1))))), w2⟩
    · refine gt_load (v := .int i) (n := 1) (ykc_208 (e := (2, .iload_n kF2, 0)) rfl) rfl rfl ?_
      refine gt_load (v := .ref 170) (n := 1) (ykc_208 (e := (2, .aload_n kF0, 0)) rfl) rfl rfl ?_
      refine gt_gfk (v := .int c) (ykc_208 (e := (5, .getfield 197, 0)) rfl) rfl hP hc rfl ?_
      refine gt_ige_t (ykc_208 (e := (4, .if_icmp .ge 93, 119)) rfl) (by omega) ?_
      exact hend ph o1 i hP g9 hK hN hc

set_option maxRecDepth 6000 in
theorem xthings_loop {R : pm_H → Prop} (hR : xHE xX xgA_VT xgF_VT R) {m : Int} {D n : Nat} {Q : Option Value → pm_H → Prop} {c : Int32} (hc9 : c.toInt ≤ 8) (hend : ∀ (ph : pm_H) (o1 : Option Value) (i : Int32), xH xX kK m 0 ph → xV ph ∧ R ph → xKC n ph → xnow ph → xget ph 170 20 = some (.int c) → xGT kK D 209 Q (63, [some (.ref 170), o1, some (.int i)], [], ph, 0, 0)) : ∀ (s : Nat) (ph : pm_H) (o1 : Option Value) (i P : Int32), c.toInt - i.toInt < s → 0 ≤ i.toInt → i.toInt ≤ c.toInt → 0 ≤ P.toInt → (P.toInt + (c.toInt - i.toInt) ≤ 8) → xH xX kK m 0 ph → xV ph ∧ R ph → xKC n ph → xnow ph → xget ph 170 20 = some (.int c) → xget ph 170 6 = some (.int P) → (∀ t : Nat, i.toInt ≤ (t : Int) → (t : Int) < c.toInt → ∃ x : Int32, xget ph 178 (1 * t) = some (.int x) ∧ 0 ≤ x.toInt ∧ x.toInt ≤ 48 ∧ (x.toInt ≠ 48 ∨ ∃ W : Int32, xget ph 170 4 = some (.int W) ∧ W.toInt = 7)) → xGT kK D 209 Q (21, [some (.ref 170), o1, some (.int i)], [], ph, 0, 0) := by
  have hEVR := xHE_and xHEVT hR
  intro s
  induction s with
  | zero => intro ph o1 i P h; omega
  | succ s ih =>
    intro ph o1 i P hs hi0 hic9 hP0 hP8 hP g9 hK hN hc hp hrd
    by_cases hic : i.toInt < c.toInt
    · obtain ⟨x, gx1, gx2, gx3, gx4⟩ := hrd i.toInt.toNat (by omega) (by omega)
      obtain ⟨lr, hlr, -, -⟩ := xA_at (A := 178) hP rfl rfl
      refine gt_load (v := .int i) (n := 1) (ykc_209 (e := (2, .iload_n kF2, 0)) rfl) rfl rfl ?_
      refine gt_load (v := .ref 170) (n := 1) (ykc_209 (e := (2, .aload_n kF0, 0)) rfl) rfl rfl ?_
      refine gt_gfk (v := .int c) (ykc_209 (e := (5, .getfield 197, 0)) rfl) rfl hP hc rfl ?_
      refine gt_ige_f (ykc_209 (e := (4, .if_icmp .ge 37, 63)) rfl) hic rfl ?_
      refine gt_load (v := .ref 170) (n := 1) (ykc_209 (e := (2, .aload_n kF0, 0)) rfl) rfl rfl ?_
      refine gt_gfr (A := 174) (ykc_209 (e := (5, .getfield 41, 0)) rfl) rfl hP rfl rfl rfl ?_
      refine gt_push (v := .int ((Int8.ofInt 32).toInt32)) (n := 2) (ykc_209 (e := (1, .bipush 32, 0)) rfl) rfl rfl ?_
      refine gt_load (v := .ref 170) (n := 1) (ykc_209 (e := (2, .aload_n kF0, 0)) rfl) rfl rfl ?_
      refine gt_gfk (v := .int P) (ykc_209 (e := (5, .getfield 133, 0)) rfl) rfl hP hp rfl ?_
      obtain ⟨a32, e_a32, h_a32⟩ : ∃ zq : Int32, ((Int8.ofInt 32).toInt32) + P = zq ∧ zq.toInt = 32 + P.toInt := ⟨_, rfl, by rw [ti_add (by rw [x32]; omega) (by rw [x32]; omega), x32]⟩
      refine gt_alu (st' := [.int a32, .ref 174]) (ykc_209 (e := (0, .iadd, 0)) rfl) (by rw [← e_a32]; exact rfl) rfl ?_
      refine gt_load (v := .ref 170) (n := 1) (ykc_209 (e := (2, .aload_n kF0, 0)) rfl) rfl rfl ?_
      refine gt_gfr (A := 178) (ykc_209 (e := (5, .getfield 53, 0)) rfl) rfl hP rfl rfl rfl ?_
      refine gt_load (v := .int i) (n := 1) (ykc_209 (e := (2, .iload_n kF2, 0)) rfl) rfl rfl ?_
      have h_t3x : i.toInt = ((1 * i.toInt.toNat : Nat) : Int) := by omega
      refine gt_ialk (y := x) (ykc_209 (e := (5, .iaload, 0)) rfl) gx1 ⟨lr, hlr⟩ h_t3x rfl ?_
      refine gt_ias (A := 174) (y := x) (x := a32) (ykc_209 (e := (5, .iastore, 0)) rfl) hP rfl rfl (by omega) (by omega) (xs_lo (Or.inr ⟨by omega, by omega⟩) gx2 gx3) rfl (fun ph101 hP101 u101 => ?_)
      have f101_20 : xget ph101 170 20 = some (.int c) := (u101.2.1 170 20 (fun q => absurd q.1 (by decide))).trans hc
      have f101_6 : xget ph101 170 6 = some (.int P) := (u101.2.1 170 6 (fun q => absurd q.1 (by decide))).trans hp
      refine gt_load (v := .ref 170) (n := 1) (ykc_209 (e := (2, .aload_n kF0, 0)) rfl) rfl rfl ?_
      refine gt_alu (st' := [.ref 170, .ref 170]) (ykc_209 (e := (0, .dup, 0)) rfl) rfl rfl ?_
      refine gt_gfk (v := .int P) (ykc_209 (e := (5, .getfield 133, 0)) rfl) rfl hP101 f101_6 rfl ?_
      refine gt_alu (st' := [.int (Int32.ofInt 1), .int P, .ref 170]) (ykc_209 (e := (0, .iconst 1, 0)) rfl) rfl rfl ?_
      obtain ⟨P1, e_P1, h_P1⟩ : ∃ zq : Int32, P + (Int32.ofInt 1) = zq ∧ zq.toInt = P.toInt + 1 := ⟨_, rfl, by rw [ti_add (by rw [xi1]; omega) (by rw [xi1]; omega), xi1]⟩
      refine gt_alu (st' := [.int P1, .ref 170]) (ykc_209 (e := (0, .iadd, 0)) rfl) (by rw [← e_P1]; exact rfl) rfl ?_
      refine gt_pf (y := P1) (ykc_209 (e := (5, .putfield 133, 0)) rfl) rfl hP101 rfl rfl (show (0 : Int) ≤ P1.toInt by omega) (show P1.toInt ≤ 8 by omega) rfl (fun ph102 hP102 u102 => ?_)
      have f102_20 : xget ph102 170 20 = some (.int c) := (u102.2.1 170 20 (by decide)).trans f101_20
      obtain ⟨i1, e_i1, h_i1⟩ : ∃ zq : Int32, i + Int32.ofInt 1 = zq ∧ zq.toInt = i.toInt + 1 := ⟨_, rfl, by rw [ti_add (by rw [xi1]; omega) (by rw [xi1]; omega), xi1]⟩
      obtain ⟨o2, ho2⟩ := xiinc2 (a := .ref 170) (o1 := o1) (i := i)
      refine gt_store (L' := [some (.ref 170), o2, some (.int i1)]) (st' := []) (n := 3) (ykc_209 (e := (3, .iinc 2 1, 0)) rfl) (by rw [← e_i1]; exact ho2) rfl ?_
      refine gt_br (pc' := 21) (st' := []) (ykc_209 (e := (4, .goto (-39), 21)) rfl) rfl ?_
      have g101_ : xV ph101 ∧ R ph101 := xu1_E hEVR u101 rfl rfl (by rfl) g9
      have k101_ : xKC n ph101 := xu1_E (xHEKC n) u101 rfl rfl (by rfl) hK
      have n101_ : xnow ph101 := xnow_p u101 gx4 hN
      have g102_ : xV ph102 ∧ R ph102 := xu1_E hEVR u102 rfl rfl rfl g101_
      have k102_ : xKC n ph102 := xu1_E (xHEKC n) u102 rfl rfl rfl k101_
      have gw : x.toInt ≠ 48 ∨ ∃ W : Int32, xget ph101 170 4 = some (.int W) ∧ W.toInt = 7 := by
        rcases gx4 with q | ⟨W, w1, w2⟩
        · exact Or.inl q
        · exact Or.inr ⟨W, (u101.2.1 170 4 (fun q => absurd q.1 (by decide))).trans (w1), w2⟩
      have gp : xget ph101 174 (32 + P.toInt.toNat) = some (.int x) := by
        have e9 : 32 + P.toInt.toNat = a32.toInt.toNat := by omega
        rw [e9]
        exact u101.1
      have n102_ : xnow ph102 := xnow_n (s := 32) (k := 6) (by decide) u102 ((u101.2.1 170 6 (fun q => absurd q.1 (by decide))).trans (hp)) h_P1 hP0 (by omega) gp gw n101_
      refine ih ph102 o2 i1 P1 (by omega) (by omega) (by omega) (by omega) (by omega) hP102 g102_ k102_ n102_ ((u102.2.1 170 20 (fun q => absurd q.2 (by decide))).trans ((u101.2.1 170 20 (fun q => absurd q.1 (by decide))).trans (hc))) u102.1 (fun t ht1 ht2 => ?_)
      obtain ⟨x2, y1_, y2_, y3_, y4_⟩ := hrd t (by omega) ht2
      have e178 : ∀ z, xget ph102 178 z = xget ph 178 z := fun z => (u102.2.1 178 z (fun q => absurd q.1 (by decide))).trans <| u101.2.1 178 z (fun q => absurd q.1 (by decide))
      refine ⟨x2, (e178 _).trans y1_, y2_, y3_, ?_⟩
      rcases y4_ with q | ⟨W, w1, w2⟩
      · exact Or.inl q
      · exact Or.inr ⟨W, (u102.2.1 170 4 (fun q => absurd q.2 (by decide))).trans ((u101.2.1 170 4 (fun q => absurd q.1 (by decide))).trans (w1)), w2⟩
    · refine gt_load (v := .int i) (n := 1) (ykc_209 (e := (2, .iload_n kF2, 0)) rfl) rfl rfl ?_
      refine gt_load (v := .ref 170) (n := 1) (ykc_209 (e := (2, .aload_n kF0, 0)) rfl) rfl rfl ?_
      refine gt_gfk (v := .int c) (ykc_209 (e := (5, .getfield 197, 0)) rfl) rfl hP hc rfl ?_
      refine gt_ige_t (ykc_209 (e := (4, .if_icmp .ge 37, 63)) rfl) (by omega) ?_
      exact hend ph o1 i hP g9 hK hN hc

set_option maxRecDepth 6000 in
theorem xnd_208_ok : ∀ nd ∈ xex_208a, nd.1 = 21 ∧ nd.2.1 = [some (.inr (.inr (.inl 0))), none, some (.inl (Int.ofNat 0, Int.ofNat 0))] ∧ xnok 5 3 nd.2.2.1 = true ∧ xfb nd.2.2.1 696334 = some (Int.ofNat 0, Int.ofNat 0) ∧ nd.2.2.2.1 = 0 := List.forall_mem_cons.mpr ⟨⟨rfl, rfl, by decide +kernel, by decide +kernel, rfl⟩, List.forall_mem_cons.mpr ⟨⟨rfl, rfl, by decide +kernel, by decide +kernel, rfl⟩, List.forall_mem_cons.mpr ⟨⟨rfl, rfl, by decide +kernel, by decide +kernel, rfl⟩, List.forall_mem_cons.mpr ⟨⟨rfl, rfl, by decide +kernel, by decide +kernel, rfl⟩, List.forall_mem_cons.mpr ⟨⟨rfl, rfl, by decide +kernel, by decide +kernel, rfl⟩, List.forall_mem_cons.mpr ⟨⟨rfl, rfl, by decide +kernel, by decide +kernel, rfl⟩, List.forall_mem_cons.mpr ⟨⟨rfl, rfl, by decide +kernel, by decide +kernel, rfl⟩, List.forall_mem_cons.mpr ⟨⟨rfl, rfl, by decide +kernel, by decide +kernel, rfl⟩, List.forall_mem_cons.mpr ⟨⟨rfl, rfl, by decide +kernel, by decide +kernel, rfl⟩, List.forall_mem_cons.mpr ⟨⟨rfl, rfl, by decide +kernel, by decide +kernel, rfl⟩, List.forall_mem_cons.mpr ⟨⟨rfl, rfl, by decide +kernel, by decide +kernel, rfl⟩, List.forall_mem_cons.mpr ⟨⟨rfl, rfl, by decide +kernel, by decide +kernel, rfl⟩, List.forall_mem_cons.mpr ⟨⟨rfl, rfl, by decide +kernel, by decide +kernel, rfl⟩, List.forall_mem_cons.mpr ⟨⟨rfl, rfl, by decide +kernel, by decide +kernel, rfl⟩, List.forall_mem_cons.mpr ⟨⟨rfl, rfl, by decide +kernel, by decide +kernel, rfl⟩, List.forall_mem_cons.mpr ⟨⟨rfl, rfl, by decide +kernel, by decide +kernel, rfl⟩, List.forall_mem_cons.mpr ⟨⟨rfl, rfl, by decide +kernel, by decide +kernel, rfl⟩, List.forall_mem_cons.mpr ⟨⟨rfl, rfl, by decide +kernel, by decide +kernel, rfl⟩, fun nd hnd => absurd hnd List.not_mem_nil⟩⟩⟩⟩⟩⟩⟩⟩⟩⟩⟩⟩⟩⟩⟩⟩⟩⟩
set_option maxRecDepth 6000 in
theorem xw_people {R : pm_H → Prop} (hR0 : xHE xX xgA_VT xgF_VU R) {m : Int} (hm : m ≤ 2147483646) (h0m : (0 : Int) ≤ m) {D n : Nat} (hn : n ≤ 1000000) (hD : 10 ≤ D) {ph : pm_H} (hP : xH xX kK m 0 ph) (hV : xV ph) (hI : xINV n ph) (hr : R ph) : ∃ v ph', pm_Rd kK false D 208 [.ref 170] ph (v, ph', 0, 0) ∧ (∃ r : Int32, v = some (.int r) ∧ xH xX kK m 0 ph' ∧ xV ph' ∧ xINV (n + 1) ph' ∧ R ph' ∧ xget ph' 170 14 = some (.int 0)) := by
  obtain ⟨D', rfl⟩ : ∃ D', D = D' + 1 + 1 := ⟨D - 2, by omega⟩
  have hR : xHE xX xgA_VT xgF_VT (fun p => R p ∧ xget p 170 14 = some (.int 0)) := xHE_and (xHE_VU hR0) (xHE_g rfl)
  have hEV0 := xHE_and (xHE_sub (gA' := xgA_VT) (gF' := xgF_VU) (by decide +kernel) (by decide +kernel) xHEV) hR0
  refine xRd_mk (nl := 3) rfl rfl ?_
  show xGT kK (D' + 1) 208 _ (0, [some (.ref 170), none, none], [], ph, 0, 0)
  have hfin : ∀ (ph3 : pm_H) (p1 : Option Value) (i c : Int32), xH xX kK m 0 ph3 → xV ph3 ∧ (fun p => R p ∧ xget p 170 14 = some (.int 0)) ph3 → xget ph3 170 20 = some (.int c) → ((c.toInt ≤ 0 ∧ xINV n ph3) ∨ (0 < c.toInt ∧ xKC n ph3 ∧ xnow ph3)) → xGT kK (D' + 1) 208 (fun v ph' => (∃ r : Int32, v = some (.int r) ∧ xH xX kK m 0 ph' ∧ xV ph' ∧ xINV (n + 1) ph' ∧ R ph' ∧ xget ph' 170 14 = some (.int 0))) (119, [some (.ref 170), p1, some (.int i)], [], ph3, 0, 0) := fun ph3 p1 i c hP3 g3 hc3 hI3 => by
      refine gt_load (v := .ref 170) (n := 1) (ykc_208 (e := (2, .aload_n kF0, 0)) rfl) rfl rfl ?_
      refine gt_cv (n := 0) (as := [.ref 170]) (r := []) (ykc_208 (e := (6, .invokevirtual 221, 0)) rfl) rfl hP3 rfl rfl rfl (xisNew hR hn (by omega) hP3 g3 hc3 hI3) rfl (fun vv ph11 hv => ?_)
      obtain ⟨r, e9, hP4, g4, i4⟩ := hv; subst e9
      change xGT kK (D' + 1) 208 _ (123, [some (.ref 170), p1, some (.int i)], [.int r], ph11, 0, 0)
      refine gt_ret (ykc_208 (e := (7, .ireturn, 0)) rfl) rfl ?_
      exact ⟨r, rfl, hP4, g4.1, i4, g4.2.1, g4.2.2⟩
  refine xsg_208a (E := fun p => (xV p ∧ R p) ∧ xINV n p) (xHE_and (xHE_sub (by decide +kernel) (by decide +kernel) hEV0) (xHE_sub (by decide +kernel) (by decide +kernel) (xHEI n))) (by omega) hm ?_ ?_ _ ph h0m ⟨fun q e => by cases e; exact ⟨_, rfl, xaRi rfl (by decide)⟩, fun q e => (by cases e), fun q e => (by cases e),  trivial⟩ xF0 hP ⟨⟨hV, hr⟩, hI⟩
  · intro nd hnd L ph h1 h2 h3 hP g5
    obtain ⟨k1, k2, k3, k4, k5⟩ := xnd_208_ok nd hnd
    rw [k2] at h2
    rw [k5] at hP
    rw [k1]
    obtain ⟨o0, L, e, q0, j1⟩ := xhL_c h2
    subst e
    obtain ⟨o1, L, e, -, j2⟩ := xhL_c j1
    subst e
    obtain ⟨o2, L, e, q2, j3⟩ := xhL_c j2
    subst e
    have e := xhL_n j3
    subst e
    obtain ⟨v0, e0, q0⟩ := q0 _ rfl
    have e8 := xaO (A := 170) hP rfl q0
    subst e0 e8
    obtain ⟨v2, e2, i, e7, i0, i1⟩ := q2 _ rfl
    subst e2 e7
    have i0 : 0 ≤ i.toInt := i0
    have i1 : i.toInt ≤ 0 := i1
    obtain ⟨t, t0, t1, t2⟩ := xhF_get (k := 696334) (c := 14) h3 (xfb_ok k4) rfl rfl
    have e := xint0 t1 t2
    subst e
    obtain ⟨c, hc, hc0, hcP, hcr⟩ := xnok_ok (by decide) (by decide) k3 h3
    obtain ⟨P, hp, hP0, hP8⟩ := xM_fi (k := 5) hP rfl
    have hP0 : 0 ≤ P.toInt := hP0
    have hP8 : P.toInt ≤ 8 := hP8
    have g5 : (xV ph ∧ R ph) ∧ xINV n ph := g5
    by_cases hc1 : c.toInt ≤ 0
    · change xGT kK (D' + 1) 208 _ (21, [some (.ref 170), o1, some (.int i)], [], ph, 0, 0)
      refine gt_load (v := .int i) (n := 1) (ykc_208 (e := (2, .iload_n kF2, 0)) rfl) rfl rfl ?_
      refine gt_load (v := .ref 170) (n := 1) (ykc_208 (e := (2, .aload_n kF0, 0)) rfl) rfl rfl ?_
      refine gt_gfk (v := .int c) (ykc_208 (e := (5, .getfield 197, 0)) rfl) rfl hP hc rfl ?_
      refine gt_ige_t (ykc_208 (e := (4, .if_icmp .ge 93, 119)) rfl) (by omega) ?_
      exact hfin ph o1 i c hP ⟨g5.1.1, g5.1.2, t0⟩ hc (Or.inl ⟨hc1, g5.2⟩)
    · have h8 : P.toInt + c.toInt ≤ 8 := by
        rcases hcP P hp with q | q
        · exact q
        · omega
      exact xpeople_loop hR (by omega) (fun ph3 p1 i3 a1 a2 a3 a4 a5 => hfin ph3 p1 i3 c a1 a2 a5 (Or.inr ⟨by omega, a3, a4⟩)) (c.toInt.toNat + 1) ph o1 i P (by omega) i0 (by omega) hP0 (by omega) hP ⟨g5.1.1, g5.1.2, t0⟩ (xKC_of g5.2) (xnow_of g5.2) hc hp (fun t _ ht2 => hcr t ht2 (by omega))
  · intro v ph' a1 a2 a3 a4
    obtain ⟨u, e, z, e2, -⟩ := a3
    obtain ⟨t, t0, t1, t2⟩ := xhF_get (k := 696334) (c := 14) a4 (List.Mem.head _) rfl rfl
    have e9 := xint0 t1 t2
    subst e9
    exact ⟨z, by rw [e, e2], a1, a2.1.1, xINV_le (Nat.le_succ n) a2.2, a2.1.2, t0⟩

set_option maxRecDepth 6000 in
theorem xnd_209_ok : ∀ nd ∈ xex_209a, nd.1 = 21 ∧ nd.2.1 = [some (.inr (.inr (.inl 0))), none, some (.inl (Int.ofNat 0, Int.ofNat 0))] ∧ xnok 6 1 nd.2.2.1 = true ∧ xfb nd.2.2.1 696334 = some (Int.ofNat 0, Int.ofNat 0) ∧ nd.2.2.2.1 = 0 := List.forall_mem_cons.mpr ⟨⟨rfl, rfl, by decide +kernel, by decide +kernel, rfl⟩, List.forall_mem_cons.mpr ⟨⟨rfl, rfl, by decide +kernel, by decide +kernel, rfl⟩, List.forall_mem_cons.mpr ⟨⟨rfl, rfl, by decide +kernel, by decide +kernel, rfl⟩, List.forall_mem_cons.mpr ⟨⟨rfl, rfl, by decide +kernel, by decide +kernel, rfl⟩, List.forall_mem_cons.mpr ⟨⟨rfl, rfl, by decide +kernel, by decide +kernel, rfl⟩, List.forall_mem_cons.mpr ⟨⟨rfl, rfl, by decide +kernel, by decide +kernel, rfl⟩, List.forall_mem_cons.mpr ⟨⟨rfl, rfl, by decide +kernel, by decide +kernel, rfl⟩, List.forall_mem_cons.mpr ⟨⟨rfl, rfl, by decide +kernel, by decide +kernel, rfl⟩, List.forall_mem_cons.mpr ⟨⟨rfl, rfl, by decide +kernel, by decide +kernel, rfl⟩, List.forall_mem_cons.mpr ⟨⟨rfl, rfl, by decide +kernel, by decide +kernel, rfl⟩, List.forall_mem_cons.mpr ⟨⟨rfl, rfl, by decide +kernel, by decide +kernel, rfl⟩, List.forall_mem_cons.mpr ⟨⟨rfl, rfl, by decide +kernel, by decide +kernel, rfl⟩, List.forall_mem_cons.mpr ⟨⟨rfl, rfl, by decide +kernel, by decide +kernel, rfl⟩, List.forall_mem_cons.mpr ⟨⟨rfl, rfl, by decide +kernel, by decide +kernel, rfl⟩, List.forall_mem_cons.mpr ⟨⟨rfl, rfl, by decide +kernel, by decide +kernel, rfl⟩, List.forall_mem_cons.mpr ⟨⟨rfl, rfl, by decide +kernel, by decide +kernel, rfl⟩, List.forall_mem_cons.mpr ⟨⟨rfl, rfl, by decide +kernel, by decide +kernel, rfl⟩, List.forall_mem_cons.mpr ⟨⟨rfl, rfl, by decide +kernel, by decide +kernel, rfl⟩, fun nd hnd => absurd hnd List.not_mem_nil⟩⟩⟩⟩⟩⟩⟩⟩⟩⟩⟩⟩⟩⟩⟩⟩⟩⟩
set_option maxRecDepth 6000 in
theorem xw_things {R : pm_H → Prop} (hR0 : xHE xX xgA_VT xgF_VU R) {m : Int} (hm : m ≤ 2147483646) (h0m : (0 : Int) ≤ m) {D n : Nat} (hn : n ≤ 1000000) (hD : 10 ≤ D) {ph : pm_H} (hP : xH xX kK m 0 ph) (hV : xV ph) (hI : xINV n ph) (hr : R ph) : ∃ v ph', pm_Rd kK false D 209 [.ref 170] ph (v, ph', 0, 0) ∧ (∃ r : Int32, v = some (.int r) ∧ xH xX kK m 0 ph' ∧ xV ph' ∧ xINV (n + 1) ph' ∧ R ph' ∧ xget ph' 170 14 = some (.int 0)) := by
  obtain ⟨D', rfl⟩ : ∃ D', D = D' + 1 + 1 := ⟨D - 2, by omega⟩
  have hR : xHE xX xgA_VT xgF_VT (fun p => R p ∧ xget p 170 14 = some (.int 0)) := xHE_and (xHE_VU hR0) (xHE_g rfl)
  have hEV0 := xHE_and (xHE_sub (gA' := xgA_VT) (gF' := xgF_VU) (by decide +kernel) (by decide +kernel) xHEV) hR0
  refine xRd_mk (nl := 3) rfl rfl ?_
  show xGT kK (D' + 1) 209 _ (0, [some (.ref 170), none, none], [], ph, 0, 0)
  have hfin : ∀ (ph3 : pm_H) (p1 : Option Value) (i c : Int32), xH xX kK m 0 ph3 → xV ph3 ∧ (fun p => R p ∧ xget p 170 14 = some (.int 0)) ph3 → xget ph3 170 20 = some (.int c) → ((c.toInt ≤ 0 ∧ xINV n ph3) ∨ (0 < c.toInt ∧ xKC n ph3 ∧ xnow ph3)) → xGT kK (D' + 1) 209 (fun v ph' => (∃ r : Int32, v = some (.int r) ∧ xH xX kK m 0 ph' ∧ xV ph' ∧ xINV (n + 1) ph' ∧ R ph' ∧ xget ph' 170 14 = some (.int 0))) (63, [some (.ref 170), p1, some (.int i)], [], ph3, 0, 0) := fun ph3 p1 i c hP3 g3 hc3 hI3 => by
      refine gt_load (v := .ref 170) (n := 1) (ykc_209 (e := (2, .aload_n kF0, 0)) rfl) rfl rfl ?_
      refine gt_cv (n := 0) (as := [.ref 170]) (r := []) (ykc_209 (e := (6, .invokevirtual 221, 0)) rfl) rfl hP3 rfl rfl rfl (xisNew hR hn (by omega) hP3 g3 hc3 hI3) rfl (fun vv ph11 hv => ?_)
      obtain ⟨r, e9, hP4, g4, i4⟩ := hv; subst e9
      change xGT kK (D' + 1) 209 _ (67, [some (.ref 170), p1, some (.int i)], [.int r], ph11, 0, 0)
      refine gt_ret (ykc_209 (e := (7, .ireturn, 0)) rfl) rfl ?_
      exact ⟨r, rfl, hP4, g4.1, i4, g4.2.1, g4.2.2⟩
  refine xsg_209a (E := fun p => (xV p ∧ R p) ∧ xINV n p) (xHE_and (xHE_sub (by decide +kernel) (by decide +kernel) hEV0) (xHE_sub (by decide +kernel) (by decide +kernel) (xHEI n))) (by omega) hm ?_ ?_ _ ph h0m ⟨fun q e => by cases e; exact ⟨_, rfl, xaRi rfl (by decide)⟩, fun q e => (by cases e), fun q e => (by cases e),  trivial⟩ xF0 hP ⟨⟨hV, hr⟩, hI⟩
  · intro nd hnd L ph h1 h2 h3 hP g5
    obtain ⟨k1, k2, k3, k4, k5⟩ := xnd_209_ok nd hnd
    rw [k2] at h2
    rw [k5] at hP
    rw [k1]
    obtain ⟨o0, L, e, q0, j1⟩ := xhL_c h2
    subst e
    obtain ⟨o1, L, e, -, j2⟩ := xhL_c j1
    subst e
    obtain ⟨o2, L, e, q2, j3⟩ := xhL_c j2
    subst e
    have e := xhL_n j3
    subst e
    obtain ⟨v0, e0, q0⟩ := q0 _ rfl
    have e8 := xaO (A := 170) hP rfl q0
    subst e0 e8
    obtain ⟨v2, e2, i, e7, i0, i1⟩ := q2 _ rfl
    subst e2 e7
    have i0 : 0 ≤ i.toInt := i0
    have i1 : i.toInt ≤ 0 := i1
    obtain ⟨t, t0, t1, t2⟩ := xhF_get (k := 696334) (c := 14) h3 (xfb_ok k4) rfl rfl
    have e := xint0 t1 t2
    subst e
    obtain ⟨c, hc, hc0, hcP, hcr⟩ := xnok_ok (by decide) (by decide) k3 h3
    obtain ⟨P, hp, hP0, hP8⟩ := xM_fi (k := 6) hP rfl
    have hP0 : 0 ≤ P.toInt := hP0
    have hP8 : P.toInt ≤ 8 := hP8
    have g5 : (xV ph ∧ R ph) ∧ xINV n ph := g5
    by_cases hc1 : c.toInt ≤ 0
    · change xGT kK (D' + 1) 209 _ (21, [some (.ref 170), o1, some (.int i)], [], ph, 0, 0)
      refine gt_load (v := .int i) (n := 1) (ykc_209 (e := (2, .iload_n kF2, 0)) rfl) rfl rfl ?_
      refine gt_load (v := .ref 170) (n := 1) (ykc_209 (e := (2, .aload_n kF0, 0)) rfl) rfl rfl ?_
      refine gt_gfk (v := .int c) (ykc_209 (e := (5, .getfield 197, 0)) rfl) rfl hP hc rfl ?_
      refine gt_ige_t (ykc_209 (e := (4, .if_icmp .ge 37, 63)) rfl) (by omega) ?_
      exact hfin ph o1 i c hP ⟨g5.1.1, g5.1.2, t0⟩ hc (Or.inl ⟨hc1, g5.2⟩)
    · have h8 : P.toInt + c.toInt ≤ 8 := by
        rcases hcP P hp with q | q
        · exact q
        · omega
      exact xthings_loop hR (by omega) (fun ph3 p1 i3 a1 a2 a3 a4 a5 => hfin ph3 p1 i3 c a1 a2 a5 (Or.inr ⟨by omega, a3, a4⟩)) (c.toInt.toNat + 1) ph o1 i P (by omega) i0 (by omega) hP0 (by omega) hP ⟨g5.1.1, g5.1.2, t0⟩ (xKC_of g5.2) (xnow_of g5.2) hc hp (fun t _ ht2 => hcr t ht2 (by omega))
  · intro v ph' a1 a2 a3 a4
    obtain ⟨u, e, z, e2, -⟩ := a3
    obtain ⟨t, t0, t1, t2⟩ := xhF_get (k := 696334) (c := 14) a4 (List.Mem.head _) rfl rfl
    have e9 := xint0 t1 t2
    subst e9
    exact ⟨z, by rw [e, e2], a1, a2.1.1, xINV_le (Nat.le_succ n) a2.2, a2.1.2, t0⟩

set_option maxRecDepth 6000 in
theorem xfieldsM {m : Int} {w D : Nat} {ph : pm_H} (hP : xH xX kK m w ph) : ∃ v ph', pm_Rd kK false (D + 1) 188 [.ref 170] ph (v, ph', 0, 0) ∧ (∃ z : Int32, v = some (.int z) ∧ ph' = ph) := by
  refine xRd_mk (nl := 1) rfl rfl ?_
  show xGT kK D 188 _ (0, [some (.ref 170)], [], ph, 0, 0)
  refine gt_load (v := .ref 170) (n := 1) (ykc_188 (e := (2, .aload_n kF0, 0)) rfl) rfl rfl ?_
  refine gt_gfi (ykc_188 (e := (5, .getfield 24, 0)) rfl) rfl hP rfl rfl (fun rows f_rows f0_rows f1_rows => ?_)
  refine gt_load (v := .ref 170) (n := 1) (ykc_188 (e := (2, .aload_n kF0, 0)) rfl) rfl rfl ?_
  refine gt_gfi (ykc_188 (e := (5, .getfield 27, 0)) rfl) rfl hP rfl rfl (fun columns f_columns f0_columns f1_columns => ?_)
  refine gt_alu (st' := [.int (rows * columns)]) (ykc_188 (e := (0, .imul, 0)) rfl) rfl rfl ?_
  refine gt_ret (ykc_188 (e := (7, .ireturn, 0)) rfl) rfl ?_
  exact ⟨_, rfl, rfl⟩

set_option maxRecDepth 6000 in
theorem xw_valley {R : pm_H → Prop} (hR0 : xHE xX xgA_VT xgF_VU R) {m : Int} (hm : m ≤ 2147483646) (h0m : (0 : Int) ≤ m) {D n : Nat} (hn : n ≤ 1000000) (hD : 10 ≤ D) {ph : pm_H} (hP : xH xX kK m 0 ph) (hV : xV ph) (hI : xINV n ph) (hr : R ph) : ∃ v ph', pm_Rd kK false D 202 [.ref 170] ph (v, ph', 0, 0) ∧ (∃ r : Int32, v = some (.int r) ∧ xH xX kK m 0 ph' ∧ xV ph' ∧ xINV (n + 1) ph' ∧ R ph' ∧ xget ph' 170 14 = some (.int 0)) := by
  obtain ⟨D', rfl⟩ : ∃ D', D = D' + 1 + 1 := ⟨D - 2, by omega⟩
  have hR : xHE xX xgA_VT xgF_VT (fun p => R p ∧ xget p 170 14 = some (.int 0)) := xHE_and (xHE_VU hR0) (xHE_g rfl)
  have hEVR := xHE_and xHEVT hR
  have hEV0 := xHE_and (xHE_sub (gA' := xgA_VT) (gF' := xgF_VU) (by decide +kernel) (by decide +kernel) xHEV) hR0
  refine xRd_mk (nl := 6) rfl rfl ?_
  show xGT kK (D' + 1) 202 _ (0, [some (.ref 170), none, none, none, none, none], [], ph, 0, 0)
  refine xsg_202a (E := fun p => (xV p ∧ R p) ∧ xINV n p) (xHE_and (xHE_sub (by decide +kernel) (by decide +kernel) hEV0) (xHE_sub (by decide +kernel) (by decide +kernel) (xHEI n))) (by omega) hm ?_ ?_ _ ph h0m ⟨fun q e => by cases e; exact ⟨_, rfl, xaRi rfl (by decide)⟩, fun q e => (by cases e), fun q e => (by cases e), fun q e => (by cases e), fun q e => (by cases e), fun q e => (by cases e),  trivial⟩ xF0 hP ⟨⟨hV, hr⟩, hI⟩
  · intro nd hnd L ph h1 h2 h3 hP g5
    have e9 := List.mem_singleton.mp (show nd ∈ [xnx_202a_3.1] from hnd)
    subst e9
    have g5 : (xV ph ∧ R ph) ∧ xINV n ph := g5
    obtain ⟨t, t0, t1, t2⟩ := xhF_get (k := 696334) (c := 14) (lo := 0) (hi := 0) h3 (xfb_ok (by decide +kernel)) rfl rfl
    have e := xint0 t1 t2
    subst e
    refine xsg_202b (E := fun p => (xV p ∧ R p ∧ xget p 170 14 = some (.int 0)) ∧ xKC n p) (xHE_and (xHE_sub (by decide +kernel) (by decide +kernel) hEVR) (xHE_sub (by decide +kernel) (by decide +kernel) (xHEKC n))) (by omega) hm ?_ ?_ _ ph h0m h2 h3 hP ⟨⟨g5.1.1, g5.1.2, t0⟩, xKC_of g5.2⟩
    · intro nd hnd L ph3 h1 h2 h3 hP3 g6
      have e9 := List.mem_singleton.mp (show nd ∈ [xnx_202b_2.1] from hnd)
      subst e9
      obtain ⟨o0, L, e, q0, j1⟩ := xhL_c h2
      subst e
      obtain ⟨p1, L, e, -, j2⟩ := xhL_c j1
      subst e
      obtain ⟨p2, L, e, -, j3⟩ := xhL_c j2
      subst e
      obtain ⟨p3, L, e, -, j4⟩ := xhL_c j3
      subst e
      obtain ⟨p4, L, e, -, j5⟩ := xhL_c j4
      subst e
      obtain ⟨p5, L, e, -, j6⟩ := xhL_c j5
      subst e
      have e := xhL_n j6
      subst e
      obtain ⟨v0, e0, q0⟩ := q0 _ rfl
      have e8 := xaO (A := 170) hP3 rfl q0
      subst e0 e8
      replace hP3 : xH xX kK m 0 ph3 := hP3
      have g6 : (xV ph3 ∧ R ph3 ∧ xget ph3 170 14 = some (.int 0)) ∧ xKC n ph3 := g6
      obtain ⟨U, u0, u1, u2⟩ := xhF_get (k := 696347) (c := 27) (lo := 0) (hi := 0) h3 (xfb_ok (by decide +kernel)) rfl rfl
      obtain ⟨P, f5, f50, f51⟩ := xhF_get (k := 696325) (c := 5) (lo := 0) (hi := 0) h3 (xfb_ok (by decide +kernel)) rfl rfl
      obtain ⟨T, f6, f60, f61⟩ := xhF_get (k := 696326) (c := 6) (lo := 0) (hi := 0) h3 (xfb_ok (by decide +kernel)) rfl rfl
      obtain ⟨W, f4, -, -⟩ := xM_fi (k := 4) hP3 rfl
      have f50 : (0 : Int) ≤ P.toInt := f50
      have f51 : P.toInt ≤ 0 := f51
      have f60 : (0 : Int) ≤ T.toInt := f60
      have f61 : T.toInt ≤ 0 := f61
      have u2 : U.toInt ≤ 0 := u2
      have n3 : xnow ph3 := ⟨W, P, T, ⟨f4, f5, f6⟩, ⟨by omega, by omega⟩, Or.inr fun k x hk _ => by omega⟩
      obtain ⟨C, hC, C0, C1_, C2_⟩ := g6.2
      change xGT kK (D' + 1) 202 _ (191, [some (.ref 170), p1, p2, p3, p4, p5], [], ph3, 0, 0)
      refine gt_load (v := .ref 170) (n := 1) (ykc_202 (e := (2, .aload_n kF0, 0)) rfl) rfl rfl ?_
      refine gt_alu (st' := [.ref 170, .ref 170]) (ykc_202 (e := (0, .dup, 0)) rfl) rfl rfl ?_
      refine gt_gfk (v := .int C) (ykc_202 (e := (5, .getfield 191, 0)) rfl) rfl hP3 hC rfl ?_
      refine gt_alu (st' := [.int (Int32.ofInt 1), .int C, .ref 170]) (ykc_202 (e := (0, .iconst 1, 0)) rfl) rfl rfl ?_
      obtain ⟨C1, e_C1, h_C1⟩ : ∃ zq : Int32, C + (Int32.ofInt 1) = zq ∧ zq.toInt = C.toInt + 1 := ⟨_, rfl, by rw [ti_add (by rw [xi1]; omega) (by rw [xi1]; omega), xi1]⟩
      refine gt_alu (st' := [.int C1, .ref 170]) (ykc_202 (e := (0, .iadd, 0)) rfl) (by rw [← e_C1]; exact rfl) rfl ?_
      refine gt_pf (y := C1) (ykc_202 (e := (5, .putfield 191, 0)) rfl) rfl hP3 rfl rfl (x32_lo _) (x32_hi _) rfl (fun ph11 hP11 u11 => ?_)
      refine gt_load (v := .ref 170) (n := 1) (ykc_202 (e := (2, .aload_n kF0, 0)) rfl) rfl rfl ?_
      refine gt_alu (st' := [.int (Int32.ofInt 0), .ref 170]) (ykc_202 (e := (0, .iconst 0, 0)) rfl) rfl rfl ?_
      refine gt_pf (y := Int32.ofInt 0) (ykc_202 (e := (5, .putfield 194, 0)) rfl) rfl hP11 rfl rfl (by decide) (by decide) rfl (fun ph12 hP12 u12 => ?_)
      have f12_7 : xget ph12 170 7 = some (.int C1) := (u12.2.1 170 7 (by decide)).trans u11.1
      refine gt_load (v := .ref 170) (n := 1) (ykc_202 (e := (2, .aload_n kF0, 0)) rfl) rfl rfl ?_
      refine gt_cv (n := 0) (as := [.ref 170]) (r := []) (ykc_202 (e := (6, .invokevirtual 122, 0)) rfl) rfl hP12 rfl rfl rfl (xfieldsM (D := D') hP12) rfl (fun vv ph13 hv => ?_)
      obtain ⟨z, e9, e8⟩ := hv; subst e9; have e7 := e8.symm; subst e7
      change xGT kK (D' + 1) 202 _ (210, [some (.ref 170), p1, p2, p3, p4, p5], [.int z], ph12, 0, 0)
      refine gt_ret (ykc_202 (e := (7, .ireturn, 0)) rfl) rfl ?_
      have n4 := xnow_u u12 (Or.inr (Or.inl ⟨rfl, by decide, by decide, by decide⟩)) (xnow_u u11 (Or.inr (Or.inl ⟨rfl, by decide, by decide, by decide⟩)) n3)
      have i2 := xINV_mk ⟨C, hC, C0, C1_, C2_⟩ hC n4 ((u12.2.1 170 27 (fun q => absurd q.2 (by decide))).trans ((u11.2.1 170 27 (fun q => absurd q.2 (by decide))).trans u0)) u2 ((u12.2.1 170 7 (fun q => absurd q.2 (by decide))).trans u11.1) h_C1 ((u12.2.2 198 (by decide)).trans (u11.2.2 198 (by decide))) ((u12.2.2 199 (by decide)).trans (u11.2.2 199 (by decide)))
      have g7 := xu1_E hEVR u12 rfl rfl rfl (xu1_E hEVR u11 rfl rfl rfl g6.1)
      exact ⟨_, rfl, hP12, g7.1, i2, g7.2.1, g7.2.2⟩
    · intro v ph' a1 a2 a3 a4
      obtain ⟨u, e, z, e2, z1, z2⟩ := a3
      have z1 : (1 : Int) ≤ z.toInt := z1
      have z2 : z.toInt ≤ 0 := z2
      omega
  · intro v ph' a1 a2 a3 a4
    obtain ⟨u, e, z, e2, -⟩ := a3
    obtain ⟨t, t0, t1, t2⟩ := xhF_get (k := 696334) (c := 14) a4 (List.Mem.head _) rfl rfl
    have e9 := xint0 t1 t2
    subst e9
    exact ⟨z, by rw [e, e2], a1, a2.1.1, xINV_le (Nat.le_succ n) a2.2, a2.1.2, t0⟩

