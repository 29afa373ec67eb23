/-! X: further blocks: the greater, the lesser, amounts, copies, what stands fast; branches by their instructions -/
section XMO
variable {X : xD} {K KC : pm_K} {E : pm_H → Prop} {d mj pc aux : Nat} {g : xb}
def xmm (fmax : Bool) (g : xb) : xb := fun k ρ S => match S with
  | (n, A, y :: x :: sa, fs, w, F) => (match xn n x, xn (n + 1) y with
    | some p, some q => bif Nat.ble (xcats sa) 8 then g k ρ (n + 3, A, .inl (bif fmax then (n + 2, 0, zmax p.2.2.1 q.2.2.1, zmax p.2.2.2 q.2.2.2) else (n + 2, 0, zmin p.2.2.1 q.2.2.1, zmin p.2.2.2 q.2.2.2)) :: sa, fs, w, F) else false
    | _, _ => false)
  | _ => false
theorem xmm_core {kd i9 : Nat} {fmax : Bool} {a9 b9 : Nat} {v0 : Value} (hc : pm_code K mj pc = some (5, .invokestatic i9, aux)) (hl : pm_lnk K (pm_own K mj) i9 = some (kd, a9, b9, v0)) (hk : ∀ (x y : Int32) (r : List Value) (ph : pm_H), Nat.ble (r.map fun v => v.category).sum 8 = true → pm_mem K false (pm_own K mj) (.invokestatic i9) (.int y :: .int x :: r) ph = some (3, .int (bif fmax then (if x < y then y else x) else (if y < x then y else x)) :: r, ph, 0, 0)) (hg : xok X K KC E d mj (pc + 3) g) : xok X K KC E d mj pc (xmm fmax g) := by
  intro D hD m hm n0 σ0 Fc cs ss k ρ G Q hB hkk hρ S h σ L st ph hS
  unfold xmm at h
  split at h
  · next n A y x sa fs w F =>
    split at h
    · next p q hp hq =>
      have hcat := (x_and h).1
      replace h := (x_and h).2
      obtain ⟨g1, g2, g3, g4, g5, g6, g7, g8, g9⟩ := hS
      match st, g5 with
      | v2 :: v1 :: r, ⟨gv2, gv1, g5⟩ =>
        obtain ⟨a, e1, rfl, ga⟩ := xn_ok hm hp gv1 (Nat.le_refl _)
        have u1 : ∀ t, t < n → xup σ n e1 t = σ t := fun t ht => xup_lt ht
        obtain ⟨b, e2, rfl, gb⟩ := xn_ok hm hq (xvG_up u1 (Nat.le_succ n) gv2) (Nat.le_refl _)
        have hcat2 : Nat.ble (r.map fun v => v.category).sum 8 = true := by rw [xcats_ok g5]; exact hcat
        refine hB.1 _ _ _ _ _ _ _ _ (xs5 hc (hk a b r ph hcat2)) ?_
        have fin : ∀ (z : Int32) (l9 h9 : Int), l9 ≤ z.toInt → z.toInt ≤ h9 → xg X KC E m n0 σ0 (n + 3, A, .inl (n + 2, 0, l9, h9) :: sa, fs, w, F) (xup (xup (xup σ n e1) (n + 1) e2) (n + 2) z.toInt) L (.int z :: r) ph Fc := fun z l9 h9 z1 z2 => by
          have u3 : ∀ t, t < n → xup (xup (xup σ n e1) (n + 1) e2) (n + 2) z.toInt t = σ t := fun t ht => by rw [xup_lt (by omega), xup_lt (by omega), xup_lt ht]
          exact ⟨by omega, fun t ht => by rw [u3 t (by omega)]; exact g2 t ht, g3, xlG_up u3 (by omega) g4, ⟨xvI (xfresh z1 z2), xsG_up u3 (by omega) g5⟩, xfG_up u3 (by omega) g6, g7, xFG_up u3 (by omega) g8, g9⟩
        obtain ⟨-, -, a1, a2⟩ := ga
        obtain ⟨-, -, b1, b2⟩ := gb
        cases fmax with
        | true =>
          refine hg D hD m hm n0 σ0 Fc cs ss k ρ G Q hB hkk hρ _ h _ _ _ _ (fin _ _ _ ?_ ?_)
          · rw [zmax_of]
            show _ ≤ (if a < b then b else a).toInt
            by_cases hab : a < b
            · rw [if_pos hab]; rw [Int32.lt_iff_toInt_lt] at hab; omega
            · rw [if_neg hab]; rw [Int32.lt_iff_toInt_lt] at hab; omega
          · rw [zmax_of]
            show (if a < b then b else a).toInt ≤ _
            by_cases hab : a < b
            · rw [if_pos hab]; rw [Int32.lt_iff_toInt_lt] at hab; omega
            · rw [if_neg hab]; rw [Int32.lt_iff_toInt_lt] at hab; omega
        | false =>
          refine hg D hD m hm n0 σ0 Fc cs ss k ρ G Q hB hkk hρ _ h _ _ _ _ (fin _ _ _ ?_ ?_)
          · rw [zmin_of]
            show _ ≤ (if b < a then b else a).toInt
            by_cases hab : b < a
            · rw [if_pos hab]; rw [Int32.lt_iff_toInt_lt] at hab; omega
            · rw [if_neg hab]; rw [Int32.lt_iff_toInt_lt] at hab; omega
          · rw [zmin_of]
            show (if b < a then b else a).toInt ≤ _
            by_cases hab : b < a
            · rw [if_pos hab]; rw [Int32.lt_iff_toInt_lt] at hab; omega
            · rw [if_neg hab]; rw [Int32.lt_iff_toInt_lt] at hab; omega
      | [], g5 => exact g5.elim
      | [_], g5 => exact g5.2.elim
    · cases h
  · cases h
theorem xmax_ok {i9 a9 b9 : Nat} {v0 : Value} (hc : pm_code K mj pc = some (5, .invokestatic i9, aux)) (hl : pm_lnk K (pm_own K mj) i9 = some (15, a9, b9, v0)) (hg : xok X K KC E d mj (pc + 3) g) : xok X K KC E d mj pc (xmm true g) := xmm_core hc hl (fun x y r ph hr => by
  unfold pm_mem
  simp only [hl, hr, cond_true]) hg
theorem xmin_ok {i9 a9 b9 : Nat} {v0 : Value} (hc : pm_code K mj pc = some (5, .invokestatic i9, aux)) (hl : pm_lnk K (pm_own K mj) i9 = some (16, a9, b9, v0)) (hg : xok X K KC E d mj (pc + 3) g) : xok X K KC E d mj pc (xmm false g) := xmm_core hc hl (fun x y r ph hr => by
  unfold pm_mem
  simp only [hl, hr, cond_true, cond_false]) hg
def xabs (g : xb) : xb := fun k ρ S => match S with
  | (n, A, x :: sa, fs, w, F) => (match xn n x with
    | some p => bif Nat.ble (xcats sa) 8 then g k ρ (n + 2, A, .inl (bif zle 0 p.2.2.1 then (n + 1, 0, p.2.2.1, p.2.2.2) else bif zle (-2147483647) p.2.2.1 then (n + 1, 0, 0, zmax (Int.neg p.2.2.1) p.2.2.2) else xtop (n + 1)) :: sa, fs, w, F) else false
    | _ => false)
  | _ => false
theorem xabs_ok {i9 a9 b9 : Nat} {v0 : Value} (hc : pm_code K mj pc = some (5, .invokestatic i9, aux)) (hl : pm_lnk K (pm_own K mj) i9 = some (17, a9, b9, v0)) (hg : xok X K KC E d mj (pc + 3) g) : xok X K KC E d mj pc (xabs g) := by
  intro D hD m hm n0 σ0 Fc cs ss k ρ G Q hB hkk hρ S h σ L st ph hS
  unfold xabs at h
  split at h
  · next n A x sa fs w F =>
    split at h
    · next p hp =>
      have hcat := (x_and h).1
      replace h := (x_and h).2
      obtain ⟨g1, g2, g3, g4, g5, g6, g7, g8, g9⟩ := hS
      match st, g5 with
      | v1 :: r, ⟨gv1, g5⟩ =>
        obtain ⟨a, e1, rfl, ga⟩ := xn_ok hm hp gv1 (Nat.le_refl _)
        have hcat2 : Nat.ble (r.map fun v => v.category).sum 8 = true := by rw [xcats_ok g5]; exact hcat
        have stp : pm_mem K false (pm_own K mj) (.invokestatic i9) (.int a :: r) ph = some (3, .int (if 0 ≤ a then a else 0 - a) :: r, ph, 0, 0) := by
          unfold pm_mem
          simp only [hl, hcat2, cond_true]
        refine hB.1 _ _ _ _ _ _ _ _ (xs5 hc stp) ?_
        have fin : ∀ (z : Int32) (q : xi), xiG (xup (xup σ n e1) (n + 1) z.toInt) (n + 2) z.toInt q → xg X KC E m n0 σ0 (n + 2, A, .inl q :: sa, fs, w, F) (xup (xup σ n e1) (n + 1) z.toInt) L (.int z :: r) ph Fc := fun z q hq => by
          have u3 : ∀ t, t < n → xup (xup σ n e1) (n + 1) z.toInt t = σ t := fun t ht => by rw [xup_lt (by omega), xup_lt ht]
          exact ⟨by omega, fun t ht => by rw [u3 t (by omega)]; exact g2 t ht, g3, xlG_up u3 (by omega) g4, ⟨xvI hq, xsG_up u3 (by omega) g5⟩, xfG_up u3 (by omega) g6, g7, xFG_up u3 (by omega) g8, g9⟩
        refine hg D hD m hm n0 σ0 Fc cs ss k ρ G Q hB hkk hρ _ h _ _ _ _ (fin _ _ ?_)
        obtain ⟨-, -, a1, a2⟩ := ga
        have h0 : (0 : Int32).toInt = 0 := rfl
        cases hz : zle 0 p.2.2.1 with
        | true =>
          have := zle_le hz
          have ha : (0 : Int32) ≤ a := by rw [Int32.le_iff_toInt_le]; omega
          rw [if_pos ha]
          exact xfresh a1 a2
        | false =>
          simp only [cond_false]
          cases hz2 : zle (-2147483647) p.2.2.1 with
          | true =>
            have := zle_le hz2
            simp only [cond_true]
            have hm2 : zmax (Int.neg p.2.2.1) p.2.2.2 = max (-p.2.2.1) p.2.2.2 := zmax_of _ _
            by_cases ha : (0 : Int32) ≤ a
            · rw [if_pos ha]
              rw [Int32.le_iff_toInt_le] at ha
              exact xfresh (by omega) (by omega)
            · rw [if_neg ha]
              rw [Int32.le_iff_toInt_le] at ha
              have hi := x32_hi a
              have e : (0 - a).toInt = -a.toInt := by rw [Int32.toInt_sub, h0, xbm (by omega) (by omega)]; omega
              exact xfresh (by rw [e]; omega) (by rw [e]; omega)
          | false => exact xtop_ok _
    · cases h
  · cases h
/-- a copy of ints into an array that takes any -/
noncomputable def xacp (X : xD) (gA : List Nat) (gF : List (Nat × Nat)) (g : xb) : xb := fun k ρ S => match S with
  | (n, A, .inl c :: .inl dp :: .inr (.inr (.inl ub)) :: .inl sp :: .inr (.inr (.inl ua)) :: sa, fs, w, F) => (match xarr X ua, xarr X ub with
    | some (_, _, 0, la, _, _, _), some (ib, s9, 0, lb, _, [], _) => bif (bif zle 0 c.2.2.1 then bif zle 0 dp.2.2.1 then bif zle 0 sp.2.2.1 then bif zle (Int.add sp.2.2.2 c.2.2.2) (Int.ofNat la) then bif zle (Int.add dp.2.2.2 c.2.2.2) (Int.ofNat lb) then bif Nat.ble (xcats sa) 8 then bif xgcl gF ib 0 lb then !xmemN gA ib else false else false else false else false else false else false else false) then g k ρ (n, A, sa, (match s9 with
      | some a9 => xdropA fs a9
      | none => fs), w, F) else false
    | _, _ => false)
  | _ => false
theorem xcpy_mem {f9 g9 : List Int32} {s d9 c i : Nat} {x : Int32} (h : (pm_cpy f9 g9 s d9 c)[i]? = some x) : -2147483648 ≤ x.toInt ∧ x.toInt ≤ 2147483647 := ⟨x32_lo x, x32_hi x⟩
theorem xacp_ok {gA : List Nat} {gF : List (Nat × Nat)} {i9 a9 b9 : Nat} {v0 : Value} (hX : xsane X gA gF) (hE : xHE X gA gF E) (hc : pm_code K mj pc = some (5, .invokestatic i9, aux)) (hl : pm_lnk K (pm_own K mj) i9 = some (5, a9, b9, v0)) (hg : xok X K KC E d mj (pc + 3) g) : xok X K KC E d mj pc (xacp X gA gF g) := by
  intro D hD m hm n0 σ0 Fc cs ss k ρ G Q hB hkk hρ S h σ L st ph hS
  unfold xacp at h
  split at h
  · next n A c dp ub sp ua sa fs w F =>
    split at h
    · next i1 s1 la p1 sg1 v1 ib s9 lb p2 v2 ha hb =>
      have hcond := (x_and h).1
      replace h := (x_and h).2
      obtain ⟨c1, hcond⟩ := x_and hcond
      obtain ⟨c2, hcond⟩ := x_and hcond
      obtain ⟨c3, hcond⟩ := x_and hcond
      obtain ⟨c4, hcond⟩ := x_and hcond
      obtain ⟨c5, hcond⟩ := x_and hcond
      obtain ⟨c6, hcond⟩ := x_and hcond
      obtain ⟨c8, c7⟩ := x_and hcond
      have c1 := zle_le c1
      have c2 := zle_le c2
      have c3 := zle_le c3
      have c4 : sp.2.2.2 + c.2.2.2 ≤ (la : Int) := zle_le c4
      have c5 : dp.2.2.2 + c.2.2.2 ≤ (lb : Int) := zle_le c5
      obtain ⟨g1, g2, g3, g4, g5, g6, g7, g8, g9⟩ := hS
      match st, g5 with
      | v5 :: v4 :: v3 :: v2 :: v1 :: r, ⟨⟨xc, e5, gc⟩, ⟨xd, e4, gd⟩, ⟨b, jb, e3, hob, hjb⟩, ⟨xs, e2, gs⟩, ⟨a, ja, e1, hoa, hja⟩, g5⟩ =>
        subst e1 e2 e3 e4 e5
        obtain ⟨hoa2, hcta, -, l, hata, hlena, -⟩ := xarr_ok ha g7 hoa hja
        obtain ⟨hob2, hctb, honeb, l2, hatb, hlenb, -⟩ := xarr_ok hb g7 hob hjb
        obtain ⟨-, -, q1, q2⟩ := gc
        obtain ⟨-, -, q3, q4⟩ := gd
        obtain ⟨-, -, q5, q6⟩ := gs
        have hn : ∀ x : Int32, 0 ≤ x.toInt → decide (x < 0) = false ∧ x.toNatClampNeg = x.toInt.toNat := fun x hx => ⟨decide_eq_false (by
          rw [Int32.lt_iff_toInt_lt]
          have h0 : (0 : Int32).toInt = 0 := rfl
          omega), rfl⟩
        obtain ⟨n1, m1⟩ := hn xc (by omega)
        obtain ⟨n2, m2⟩ := hn xd (by omega)
        obtain ⟨n3, m3⟩ := hn xs (by omega)
        have b1 : Nat.ble (xs.toInt.toNat + xc.toInt.toNat) l.length = true := Nat.ble_eq_true_of_le (by omega)
        have b2 : Nat.ble (xd.toInt.toNat + xc.toInt.toNat) l2.length = true := Nat.ble_eq_true_of_le (by omega)
        have hcat2 : Nat.ble (r.map fun v => v.category).sum 8 = true := by rw [xcats_ok g5]; exact c6
        have stp : pm_mem K false (pm_own K mj) (.invokestatic i9) (.int xc :: .int xd :: .ref b :: .int xs :: .ref a :: r) ph = some (3, r, ph.set b (.inl (0, .inl (pm_cpy l l2 xs.toInt.toNat xd.toInt.toNat xc.toInt.toNat))), 0, 0) := by
          unfold pm_mem
          simp only [hl, hata, hatb, n1, n2, n3, m1, m2, m3, b1, b2, hcat2, Bool.not_false, Bool.and_self, cond_true]
        refine hB.1 _ _ _ _ _ _ _ _ (xs5 hc stp) ?_
        have hat2 : pm_at (ph.set b (.inl (0, .inl (pm_cpy l l2 xs.toInt.toNat xd.toInt.toNat xc.toInt.toNat)))) b = some _ := xat_self hatb
        have hgd : xmemN gA ib = false := by
          cases hq : xmemN gA ib with
          | false => rfl
          | true => rw [hq] at c7; cases c7
        have hcl9 : ∀ k9, (ib, k9) ∈ gF → xget ph b k9 = xget (ph.set b (.inl (0, .inl (pm_cpy l l2 xs.toInt.toNat xd.toInt.toNat xc.toInt.toNat)))) b k9 := fun k9 hk9 => by
          have hbig : lb < k9 := by
            rcases Nat.lt_or_ge lb k9 with q9 | q9
            · exact q9
            · exact absurd rfl (xgcl_ok c8 hk9 (Nat.zero_le _) q9)
          unfold xget
          rw [hatb, hat2]
          have n1 : l2[k9]? = none := List.getElem?_eq_none (by omega)
          have n2 : (pm_cpy l l2 xs.toInt.toNat xd.toInt.toNat xc.toInt.toNat)[k9]? = none := List.getElem?_eq_none (by rw [pm_cpy_len (Nat.le_of_ble_eq_true b1) (Nat.le_of_ble_eq_true b2)]; omega)
          show (l2[k9]?).map Value.int = ((pm_cpy l l2 xs.toInt.toNat xd.toInt.toNat xc.toInt.toNat)[k9]?).map Value.int
          rw [n1, n2]
        refine hg D hD m hm n0 σ0 Fc cs ss k ρ G Q hB hkk hρ _ h σ L _ _ ⟨g1, g2, g3, g4, g5, xfG_set g6 (fun p9 hp9 => ?_), xH_set g7 hob2 hctb ⟨_, hat2, ?_, fun i x hx => xcpy_mem hx⟩, g8, xE_wr hX hE hob2 hctb hgd hcl9 g9⟩
        · split at hp9
          · next a9 =>
            have := honeb a9 rfl
            subst this
            obtain ⟨w1, w2, w3⟩ := xdropA_mem hp9
            exact ⟨w1, fun _ => xget_ne w2, fun hge _ _ => xat_ne fun e => w3 (xmemo_eq hge e)⟩
          · have g99 := g6 p9.1 p9.2 hp9
            unfold xfact at g99
            refine ⟨hp9, fun hk9 => xget_ne fun eb => ?_, fun hge _ _ => xat_ne fun eb => ?_⟩
            · rw [if_pos hk9] at g99
              obtain ⟨⟨j3, t3, h3, h4⟩, -⟩ := g99
              rw [eb, hob2] at h3
              cases h3
              rw [hctb] at h4
              cases h4
            · rw [if_neg hge] at g99
              obtain ⟨⟨j3, t3, h3, h4⟩, -⟩ := g99
              rw [eb, hob2] at h3
              cases h3
              rw [hctb] at h4
              cases h4
        · rw [pm_cpy_len (by omega) (by omega)]
          exact hlenb
    · cases h
  · cases h
/-- a string's parts -/
noncomputable def xgfr (X : xD) (KC : pm_K) (kf : Nat) (g : xb) : xb := fun k ρ S => match S with
  | (n, A, .inr (.inr (.inl u)) :: sa, fs, w, F) => (match x1k X u with
    | some i => (match X.2.1 i with
      | some (some a, .inl (6, _)) => bif Nat.blt a 1048576 then false else (match pm_ro KC (a - 1048576) kf with
        | some (.int x) => g k ρ (n, A, .inl (0, x.toInt, x.toInt, x.toInt) :: sa, fs, w, F)
        | some (.ref b) => (match X.1 b with
          | some j => bif xmemN (X.2.2 j) j then g k ρ (n, A, .inr (.inr (.inl j)) :: sa, fs, w, F) else false
          | none => false)
        | _ => false)
      | _ => false)
    | none => false)
  | _ => false
theorem xgfr_ok {i kf b9 : Nat} {v0 : Value} (hR : ∀ a k, pm_ro K a k = pm_ro KC a k) (hc : pm_code K mj pc = some (5, .getfield i, aux)) (hl : pm_lnk K (pm_own K mj) i = some (7, kf, b9, v0)) (hg : xok X K KC E d mj (pc + 3) g) : xok X K KC E d mj pc (xgfr X KC kf g) := by
  intro D hD m hm n0 σ0 Fc cs ss k ρ G Q hB hkk hρ S h σ L st ph hS
  unfold xgfr at h
  split at h
  · next n A u sa fs w F =>
    split at h
    · next i hi =>
      split at h
      · next a0 t0 hct =>
        cases hlim : Nat.blt a0 1048576 with
        | true => rw [hlim] at h; cases h
        | false =>
        rw [hlim] at h
        simp only [cond_false] at h
        obtain ⟨g1, g2, g3, g4, g5, g6, g7, g8, g9⟩ := hS
        have hn : 0 < n := Nat.lt_of_lt_of_le g3.1 g1
        have h0 : σ 0 = 0 := by rw [g2 0 g3.1]; exact g3.2.1
        match st, g5 with
        | v1 :: r, ⟨⟨a, j, e, ho, hj⟩, g5⟩ =>
          subst e
          have := x1k_ok hi hj
          subst this
          obtain ⟨s2, t2, ht, hone, -⟩ := g7 a j ho
          rw [hct] at ht
          cases ht
          have := hone a0 rfl
          subst this
          have step : ∀ v, pm_ro KC (a - 1048576) kf = some v → pm_step K false mj (pc, L, .ref a :: r, ph, cs, ss) = some (.inl (pc + 3, L, v :: r, ph, cs, ss)) := fun v hv => xs5 hc (by
            unfold pm_mem
            simp only [hl, hlim, cond_false, hR, hv])
          split at h
          · next x hx =>
            exact hB.1 _ _ _ _ _ _ _ _ (step _ hx) (hg D hD m hm n0 σ0 Fc cs ss k ρ G Q hB hkk hρ _ h σ L _ ph ⟨g1, g2, g3, g4, ⟨xvI ⟨hn, by show x.toInt = σ 0 + x.toInt; omega, Int.le_refl _, Int.le_refl _⟩, g5⟩, g6, g7, g8, g9⟩)
          · next b hb =>
            split at h
            · next j2 hj2 =>
              have hin := (x_and h).1
              replace h := (x_and h).2
              exact hB.1 _ _ _ _ _ _ _ _ (step _ hb) (hg D hD m hm n0 σ0 Fc cs ss k ρ G Q hB hkk hρ _ h σ L _ ph ⟨g1, g2, g3, g4, ⟨xvR hj2 (xmemN_in hin), g5⟩, g6, g7, g8, g9⟩)
            · cases h
          · cases h
      · cases h
    · cases h
  · cases h
/-- an element, or the length, of an array that stands fast -/
noncomputable def xbrl (X : xD) (g : xb) : xb := fun k ρ S => match S with
  | (n, A, .inl q :: .inr (.inr (.inl u)) :: sa, fs, w, F) => (match xarr X u with
    | some (_, _, kd, len, p, sg, _) => bif (bif Nat.beq kd 7 then xidx q len else false) then (match xety sg p q.2.2.1.toNat q.2.2.2.toNat with
        | some (l, h) => g k ρ (n + 1, A, .inl (n, 0, l, h) :: sa, fs, w, F)
        | none => false) else false
    | none => false)
  | _ => false
theorem xbrl_ok (hc : pm_code K mj pc = some (5, .baload, aux)) (hR : ∀ a, pm_rat K a = pm_rat KC a) (hg : xok X K KC E d mj (pc + 1) g) : xok X K KC E d mj pc (xbrl X g) := by
  intro D hD m hm n0 σ0 Fc cs ss k ρ G Q hB hkk hρ S h σ L st ph hS
  unfold xbrl at h
  split at h
  · next n A q u sa fs w F =>
    split at h
    · next i s kd len p sg v ha =>
      have hcond := (x_and h).1
      replace h := (x_and h).2
      obtain ⟨hkd, hix⟩ := x_and hcond
      have := Nat.eq_of_beq_eq_true hkd
      subst this
      obtain ⟨g1, g2, g3, g4, g5, g6, g7, g8, g9⟩ := hS
      match st, g5 with
      | v2 :: v1 :: r, ⟨⟨x, e2, gx⟩, ⟨a, j, e, ho, hj⟩, g5⟩ =>
        subst e e2
        obtain ⟨ho2, hct, hone, hat, f, hrat, hel⟩ := xarr_ok ha g7 ho hj
        obtain ⟨b1, b2, b3⟩ := xidx_ok hix gx
        obtain ⟨y, hy, he⟩ := hel _ b2
        have h1 : ¬ x < 0 := by
          rw [Int32.lt_iff_toInt_lt]
          have h0 : (0 : Int32).toInt = 0 := rfl
          omega
        have hinb : pm_inb x len = true := by
          unfold pm_inb
          rw [decide_eq_false h1]
          exact Nat.ble_eq_true_of_le (show x.toInt.toNat + 1 ≤ len from b2)
        have hfx : f x.toNatClampNeg = .int y := hy
        have step : pm_step K false mj (pc, L, .int x :: .ref a :: r, ph, cs, ss) = some (.inl (pc + 1, L, .int y :: r, ph, cs, ss)) := xs5 hc (by
          unfold pm_mem
          simp only [hat, hR, hrat, hinb, cond_true, hfx])
        refine hB.1 _ _ _ _ _ _ _ _ step ?_
        have he2 := xety_ok (lo := q.2.2.1.toNat) (hi := q.2.2.2.toNat) hm (by have := gx.2.2.1; omega) (by have := gx.2.2.2; omega) he
        split at h
        · next l9 h9 hty =>
          rw [hty] at he2
          have u1 : ∀ t, t < n → xup σ n y.toInt t = σ t := fun t ht => xup_lt ht
          exact hg D hD m hm n0 σ0 Fc cs ss k ρ G Q hB hkk hρ _ h (xup σ n y.toInt) L _ ph ⟨by omega, fun t ht => by rw [u1 t (by omega)]; exact g2 t ht, g3, xlG_up u1 (by omega) g4, ⟨xvI (xfresh he2.1 he2.2), xsG_up u1 (by omega) g5⟩, xfG_up u1 (by omega) g6, g7, xFG_up u1 (by omega) g8, g9⟩
        · cases h
    · cases h
  · cases h
noncomputable def xalr (X : xD) (g : xb) : xb := fun k ρ S => match S with
  | (n, A, .inr (.inr (.inl u)) :: sa, fs, w, F) => (match xarr X u with
    | some (_, _, kd, len, _, _, _) => bif (bif Nat.ble len 65535 then Nat.beq kd 7 else false) then g k ρ (n, A, .inl (0, Int.ofNat len, Int.ofNat len, Int.ofNat len) :: sa, fs, w, F) else false
    | none => false)
  | _ => false
theorem xalr_ok (hR : ∀ a, pm_rat K a = pm_rat KC a) (hc : pm_code K mj pc = some (5, .arraylength, aux)) (hg : xok X K KC E d mj (pc + 1) g) : xok X K KC E d mj pc (xalr X g) := by
  intro D hD m hm n0 σ0 Fc cs ss k ρ G Q hB hkk hρ S h σ L st ph hS
  unfold xalr at h
  split at h
  · next n A u sa fs w F =>
    split at h
    · next i s kd len p sg v ha =>
      have hcond := (x_and h).1
      replace h := (x_and h).2
      obtain ⟨hle, hkd⟩ := x_and hcond
      have hle := Nat.le_of_ble_eq_true hle
      have := Nat.eq_of_beq_eq_true hkd
      subst this
      obtain ⟨g1, g2, g3, g4, g5, g6, g7, g8, g9⟩ := hS
      have hn : 0 < n := Nat.lt_of_lt_of_le g3.1 g1
      have h0 : σ 0 = 0 := by rw [g2 0 g3.1]; exact g3.2.1
      match st, g5 with
      | v1 :: r, ⟨⟨a, j, e, ho, hj⟩, g5⟩ =>
        subst e
        obtain ⟨ho2, hct, hone, hat, f, hrat, -⟩ := xarr_ok ha g7 ho hj
        have step : pm_step K false mj (pc, L, .ref a :: r, ph, cs, ss) = some (.inl (pc + 1, L, .int (Int32.ofNat len) :: r, ph, cs, ss)) := xs5 hc (by
          unfold pm_mem
          simp only [hat, hR, hrat])
        exact hB.1 _ _ _ _ _ _ _ _ step (hg D hD m hm n0 σ0 Fc cs ss k ρ G Q hB hkk hρ _ h σ L _ ph ⟨g1, g2, g3, g4, ⟨xvI (xlen_ok hn h0 hle), g5⟩, g6, g7, g8, g9⟩)
    · cases h
  · cases h
end XMO
/-! what the arms of a branch say -/
theorem xb_lt (x y : Int32) : (fo_lt x y = true → x.toInt < y.toInt) ∧ (fo_lt x y = false → y.toInt ≤ x.toInt) := by
  rw [fo_lt_eq]
  refine ⟨fun h => Int32.lt_iff_toInt_lt.mp (of_decide_eq_true h), fun h => ?_⟩
  have h2 := of_decide_eq_false h
  rw [Int32.lt_iff_toInt_lt] at h2
  omega
theorem xb_le (x y : Int32) : (fo_le x y = true → x.toInt ≤ y.toInt) ∧ (fo_le x y = false → y.toInt < x.toInt) := by
  rw [fo_le_eq]
  refine ⟨fun h => Int32.le_iff_toInt_le.mp (of_decide_eq_true h), fun h => ?_⟩
  have h2 := of_decide_eq_false h
  rw [Int32.le_iff_toInt_le] at h2
  omega
theorem xb_gt (x y : Int32) : (fo_gt x y = true → y.toInt < x.toInt) ∧ (fo_gt x y = false → x.toInt ≤ y.toInt) := xb_lt y x
theorem xb_ge (x y : Int32) : (fo_ge x y = true → y.toInt ≤ x.toInt) ∧ (fo_ge x y = false → x.toInt < y.toInt) := xb_le y x
theorem xb_eq (x y : Int32) : (fo_eq x y = true → x.toInt = y.toInt) ∧ (fo_eq x y = false → x.toInt ≠ y.toInt) := by
  rw [fo_eq_eq]
  exact ⟨fun h => by rw [of_decide_eq_true h], fun h q => of_decide_eq_false h (Int32.toInt_inj.mp q)⟩
theorem xb_ne (x y : Int32) : (fo_ne x y = true → x.toInt ≠ y.toInt) ∧ (fo_ne x y = false → x.toInt = y.toInt) := by
  have h := xb_eq x y
  unfold fo_ne
  cases he : fo_eq x y with
  | true => exact ⟨fun q => (by cases q), fun _ => h.1 he⟩
  | false => exact ⟨fun _ => h.2 he, fun q => (by cases q)⟩
theorem xcmp_lt (x y : Int64) : ((lg_cmp x y).toInt < 0 ↔ x.toInt < y.toInt) ∧ ((lg_cmp x y).toInt = 0 ↔ x.toInt = y.toInt) := by
  unfold lg_cmp
  have h1 : (1 : Int32).toInt = 1 := rfl
  have h2 : (0 : Int32).toInt = 0 := rfl
  have h3 : (-1 : Int32).toInt = -1 := rfl
  by_cases a : x > y
  · rw [if_pos a, h1]
    have := Int64.lt_iff_toInt_lt.mp a
    omega
  · rw [if_neg a]
    have a2 : ¬ y.toInt < x.toInt := fun q => a (Int64.lt_iff_toInt_lt.mpr q)
    by_cases b : x = y
    · rw [if_pos b, h2, b]
      omega
    · rw [if_neg b, h3]
      have : x.toInt ≠ y.toInt := fun q => b (Int64.toInt_inj.mp q)
      omega
theorem x0i : (0 : Int32).toInt = 0 := rfl
theorem xz_lt (x : Int32) : (fo_lt x 0 = true → x.toInt < 0) ∧ (fo_lt x 0 = false → (0 : Int) ≤ x.toInt) := xb_lt x 0
theorem xz_le (x : Int32) : (fo_le x 0 = true → x.toInt ≤ 0) ∧ (fo_le x 0 = false → (0 : Int) < x.toInt) := xb_le x 0
theorem xz_gt (x : Int32) : (fo_gt x 0 = true → (0 : Int) < x.toInt) ∧ (fo_gt x 0 = false → x.toInt ≤ 0) := xb_gt x 0
theorem xz_ge (x : Int32) : (fo_ge x 0 = true → (0 : Int) ≤ x.toInt) ∧ (fo_ge x 0 = false → x.toInt < 0) := xb_ge x 0
theorem xz_eq (x : Int32) : (fo_eq x 0 = true → x.toInt = 0) ∧ (fo_eq x 0 = false → x.toInt ≠ 0) := xb_eq x 0
theorem xz_ne (x : Int32) : (fo_ne x 0 = true → x.toInt ≠ 0) ∧ (fo_ne x 0 = false → x.toInt = 0) := xb_ne x 0
theorem xy_lt (x y : Int64) : (fo_lt (lg_cmp x y) 0 = true → x.toInt < y.toInt) ∧ (fo_lt (lg_cmp x y) 0 = false → y.toInt ≤ x.toInt) := by
  have h := xz_lt (lg_cmp x y)
  have k := xcmp_lt x y
  exact ⟨fun q => k.1.mp (h.1 q), fun q => by have := h.2 q; omega⟩
theorem xy_le (x y : Int64) : (fo_le (lg_cmp x y) 0 = true → x.toInt ≤ y.toInt) ∧ (fo_le (lg_cmp x y) 0 = false → y.toInt < x.toInt) := by
  have h := xz_le (lg_cmp x y)
  have k := xcmp_lt x y
  exact ⟨fun q => by have := h.1 q; omega, fun q => by have := h.2 q; omega⟩
theorem xy_gt (x y : Int64) : (fo_gt (lg_cmp x y) 0 = true → y.toInt < x.toInt) ∧ (fo_gt (lg_cmp x y) 0 = false → x.toInt ≤ y.toInt) := by
  have h := xz_gt (lg_cmp x y)
  have k := xcmp_lt x y
  exact ⟨fun q => by have := h.1 q; omega, fun q => by have := h.2 q; omega⟩
theorem xy_ge (x y : Int64) : (fo_ge (lg_cmp x y) 0 = true → y.toInt ≤ x.toInt) ∧ (fo_ge (lg_cmp x y) 0 = false → x.toInt < y.toInt) := by
  have h := xz_ge (lg_cmp x y)
  have k := xcmp_lt x y
  exact ⟨fun q => by have := h.1 q; omega, fun q => by have := h.2 q; omega⟩
theorem xy_eq (x y : Int64) : (fo_eq (lg_cmp x y) 0 = true → x.toInt = y.toInt) ∧ (fo_eq (lg_cmp x y) 0 = false → x.toInt ≠ y.toInt) := by
  have h := xz_eq (lg_cmp x y)
  have k := xcmp_lt x y
  exact ⟨fun q => k.2.mp (h.1 q), fun q r => h.2 q (k.2.mpr r)⟩
theorem xy_ne (x y : Int64) : (fo_ne (lg_cmp x y) 0 = true → x.toInt ≠ y.toInt) ∧ (fo_ne (lg_cmp x y) 0 = false → x.toInt = y.toInt) := by
  have h := xz_ne (lg_cmp x y)
  have k := xcmp_lt x y
  exact ⟨fun q r => h.1 q (k.2.mpr r), fun q => k.2.mp (h.2 q)⟩
/-! chars, bytes -/
def xa_i2c (n : Nat) (s : List xv) : Option (List xv) := match s with
  | x :: r => (match xn n x with
    | some q => some ((bif xin q 0 65535 then .inl q else .inl (n + 1, 0, 0, 65535)) :: r)
    | none => none)
  | _ => none
theorem xi2c_val (a : Int32) : 0 ≤ ((a.toUInt32 % 65536).toInt32).toInt ∧ ((a.toUInt32 % 65536).toInt32).toInt ≤ 65535 ∧ ((a.toUInt32 % 65536).toInt32).toInt = ((a.toUInt32 % 65536).toNat : Int) := by
  have h1 : (a.toUInt32 % 65536).toNat = a.toUInt32.toNat % 65536 := by simp
  have h2 : (a.toUInt32 % 65536).toNat < 65536 := by omega
  have h3 : ((a.toUInt32 % 65536).toInt32).toBitVec.toNat = (a.toUInt32 % 65536).toNat := rfl
  have h4 := xnb (x := (a.toUInt32 % 65536).toInt32) (by omega)
  omega
theorem xi2c_id {x : Int32} (h1 : 0 ≤ x.toInt) (h2 : x.toInt ≤ 65535) : ((x.toUInt32 % 65536).toInt32).toInt = x.toInt := by
  obtain ⟨e1, l1⟩ := xnn h1
  obtain ⟨-, -, k3⟩ := xi2c_val x
  have h5 : (x.toUInt32 % 65536).toNat = x.toUInt32.toNat % 65536 := by simp
  have h6 : x.toUInt32.toNat = x.toBitVec.toNat := rfl
  omega
theorem xa_i2c_ok {X : xD} : xaok X .i2c xa_i2c := by
  intro m n σ sv s s' hm h hn h0 g
  unfold xa_i2c at h
  split at h
  · next x r =>
    split at h
    · next q hx =>
      cases h
      match sv, g with
      | v1 :: vr, ⟨g1, g3⟩ =>
        obtain ⟨a, e1, rfl, ga⟩ := xn_ok hm hx g1 (Nat.le_refl _)
        cases hb : xin q 0 65535 with
        | true =>
          obtain ⟨b1, b2⟩ := xin_ok hb ga
          have e5 := xi2c_id b1 b2
          have u3 : ∀ t, t < n → xup σ n e1 t = σ t := fun t ht => xup_lt ht
          exact ⟨_, _, rfl, u3, ⟨_, rfl, by rw [e5]; exact xiG_up (n := n + 1) (fun _ _ => rfl) (by omega) ga⟩, xsG_up u3 (by omega) g3⟩
        | false =>
          obtain ⟨k1, k2, -⟩ := xi2c_val a
          have u3 : ∀ t, t < n → xup (xup σ n e1) (n + 1) ((a.toUInt32 % 65536).toInt32).toInt t = σ t := fun t ht => by rw [xup_lt (by omega), xup_lt ht]
          exact ⟨_, _, rfl, u3, ⟨_, rfl, xiG_up (n := n + 2) (fun _ _ => rfl) (by omega) (xfresh k1 k2)⟩, xsG_up u3 (by omega) g3⟩
    · cases h
  · cases h
def xrc : xb := fun _ ρ S => match S with
  | (n, A, [.inl q], fs, w, F) => bif xin q 0 65535 then ρ (some (.inl q)) (n, A, [], fs, w, F) else false
  | _ => false
theorem xrc_val {x : Int32} (h1 : 0 ≤ x.toInt) (h2 : x.toInt ≤ 65535) : x.toUInt32.toUInt16.toUInt32.toInt32 = x := by
  obtain ⟨e1, l1⟩ := xnn h1
  apply Int32.toBitVec_inj.mp
  apply BitVec.eq_of_toNat_eq
  have h1 : x.toUInt32.toNat = x.toBitVec.toNat := rfl
  have h2 : x.toUInt32.toUInt16.toNat = x.toUInt32.toNat % 65536 := by simp
  have h3 : x.toUInt32.toUInt16.toUInt32.toNat = x.toUInt32.toUInt16.toNat := by simp
  have h4 : (x.toUInt32.toUInt16.toUInt32.toInt32).toBitVec.toNat = x.toUInt32.toUInt16.toUInt32.toNat := rfl
  omega
section XMP
variable {X : xD} {K KC : pm_K} {E : pm_H → Prop} {d mj pc aux : Nat}
theorem xrc_ok (hc : pm_code K mj pc = some (7, .ireturn, aux)) (hs : (pm_sig K mj).2.2 = 5) : xok X K KC E d mj pc xrc := by
  intro D hD m hm n0 σ0 Fc cs ss k ρ G Q hB hk hρ S h σ L st ph hS
  unfold xrc at h
  split at h
  · next n A q fs w F =>
    have hin := (x_and h).1
    replace h := (x_and h).2
    obtain ⟨g1, g2, g3, g4, g5, g6, g7, g8, g9⟩ := hS
    match st, g5 with
    | [v], ⟨⟨x, e, gx⟩, g5⟩ =>
      subst e
      have b := xin_ok hin gx
      have rt : pm_ret (pm_sig K mj).2.2 .ireturn [.int x] = some (some (.int x)) := by
        rw [hs]
        unfold pm_ret
        have e9 : decide (x.toUInt32.toUInt16.toUInt32.toInt32 = x) = true := decide_eq_true (xrc_val b.1 b.2)
        simp only [e9]
        rfl
      exact hB.2.2 _ _ _ _ _ (xs7 hc rt) (hρ _ _ h σ L [] ph _ ⟨g1, g2, g3, g4, trivial, g6, g7, g8, g9⟩ ⟨_, rfl, xvI gx⟩)
    | _ :: _ :: _, ⟨_, g5⟩ => exact g5.elim
  · cases h
def xrb8 : xb := fun _ ρ S => match S with
  | (n, A, [.inl q], fs, w, F) => bif xin q (-128) 127 then ρ (some (.inl q)) (n, A, [], fs, w, F) else false
  | _ => false
theorem xrb8_val {x : Int32} (h1 : -128 ≤ x.toInt) (h2 : x.toInt ≤ 127) : x.toInt8.toInt32 = x := by
  apply Int32.toInt_inj.mp
  have e1 : x.toInt8.toInt32.toInt = x.toInt8.toInt := by simp
  have e2 : x.toInt8.toInt = x.toInt.bmod (2 ^ 8) := Int32.toInt_toInt8 x
  have e3 : x.toInt.bmod (2 ^ 8) = x.toInt := Int.bmod_eq_of_le (by omega) (by omega)
  omega
theorem xrb8_ok (hc : pm_code K mj pc = some (7, .ireturn, aux)) (hs : (pm_sig K mj).2.2 = 6) : xok X K KC E d mj pc xrb8 := by
  intro D hD m hm n0 σ0 Fc cs ss k ρ G Q hB hk hρ S h σ L st ph hS
  unfold xrb8 at h
  split at h
  · next n A q fs w F =>
    have hin := (x_and h).1
    replace h := (x_and h).2
    obtain ⟨g1, g2, g3, g4, g5, g6, g7, g8, g9⟩ := hS
    match st, g5 with
    | [v], ⟨⟨x, e, gx⟩, g5⟩ =>
      subst e
      have b := xin_ok hin gx
      have rt : pm_ret (pm_sig K mj).2.2 .ireturn [.int x] = some (some (.int x)) := by
        rw [hs]
        unfold pm_ret
        have e9 : decide (x.toInt8.toInt32 = x) = true := decide_eq_true (xrb8_val b.1 b.2)
        simp only [e9]
        rfl
      exact hB.2.2 _ _ _ _ _ (xs7 hc rt) (hρ _ _ h σ L [] ph _ ⟨g1, g2, g3, g4, trivial, g6, g7, g8, g9⟩ ⟨_, rfl, xvI gx⟩)
    | _ :: _ :: _, ⟨_, g5⟩ => exact g5.elim
  · cases h
end XMP
