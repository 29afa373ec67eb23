/-! Positions: who is there stands on a field of the valley; 48 is one only where there are seven columns -/
/-- of one row: so many people and things ahead of it -/
def xgd (ph : pm_H) (a off P T : Nat) : Prop := ∀ (k : Nat) (x : Int32), (k < P ∨ 32 ≤ k ∧ k < 32 + T) → xget ph a (off + k) = some (.int x) → x.toInt ≠ 48
/-- of the row now -/
def xPG (ph : pm_H) : Prop := ∀ (C P T : Int32), xget ph 170 4 = some (.int C) → xget ph 170 5 = some (.int P) → xget ph 170 6 = some (.int T) → C.toInt ≠ 7 → xgd ph 174 0 P.toInt.toNat T.toInt.toNat
/-- a good position may be put into the row -/
def xSt (E : pm_H → Prop) : Prop := ∀ (ph : pm_H) (l : List Int32) (k : Nat) (y : Int32), pm_at ph 174 = some (.inl (0, .inl l)) → (y.toInt ≠ 48 ∨ ∃ C : Int32, xget ph 170 4 = some (.int C) ∧ C.toInt = 7) → E ph → E (ph.set 174 (.inl (0, .inl (l.set k y))))
theorem xSt_cells {E : pm_H → Prop} {kF : List (Nat × Nat)} {ph0 : pm_H} (hk : kF.all (fun p => !Nat.beq p.1 4) = true) (h : xSt E) : xSt (fun p => E p ∧ xcells xX kF ph0 p) := fun ph l k y hat hy hp => ⟨h ph l k y hat hy hp.1, fun a i c ho hm => by
  rw [← hp.2 a i c ho hm]
  refine xget_ne fun e => ?_
  subst e
  have e4 : xX.1 174 = some 4 := by decide +kernel
  rw [e4] at ho
  cases ho
  have := List.all_eq_true.mp hk (4, c) hm
  cases this⟩
section XPO
variable {K KC : pm_K} {E : pm_H → Prop} {d mj pc aux : Nat} {ins : Instr} {g : xb}
noncomputable def xplo (fs : List (Nat × xv)) (k : Nat) : Int := match xlook fs k with
  | some (.inl q) => q.2.2.1
  | _ => 0
noncomputable def xphi (fs : List (Nat × xv)) (k : Nat) : Int := match xlook fs k with
  | some (.inl q) => q.2.2.2
  | _ => 48
noncomputable def xp5 (q : xi) (fs : List (Nat × xv)) : Bool := bif zle (xphi fs 696324) 6 then (bif (bif zle 0 q.2.2.1 then bif zle (q.2.2.2 + 1) (xplo fs 696325) then zle (q.2.2.2 + 1) 8 else false else false) then true else bif zle 32 q.2.2.1 then bif zle (q.2.2.2 + 1) (32 + xplo fs 696326) then zle (q.2.2.2 + 1) 40 else false else false) else false
/-- a position is loaded of one who is there -/
noncomputable def xialP (g : xb) : xb := fun k ρ S => match S with
  | (n, A, .inl q :: .inr (.inr (.inl u)) :: sa, fs, w, F) => bif (match xarr xX u with
    | some (i, _) => bif Nat.beq i 4 then xp5 q fs else false
    | none => false) then g k ρ (n + 1, A, .inl (n, 0, 0, 47) :: sa, fs, w, F) else xial xX g k ρ S
  | _ => xial xX g k ρ S
theorem xplo_ok {m : Int} {σ : Nat → Int} {n k : Nat} {ph : pm_H} {fs : List (Nat × xv)} (hk : k < 17592186044416) (g : xfG xX m σ n ph fs) (h : 0 < xplo fs k) : ∃ x : Int32, xget ph (k / 4096) (k % 4096) = some (.int x) ∧ xplo fs k ≤ x.toInt := by
  unfold xplo at h ⊢
  split at h
  · next q hq =>
    have g9 := g _ _ (xlook_mem hq)
    unfold xfact at g9
    rw [if_pos hk] at g9
    obtain ⟨-, v, h1, x, e, gx⟩ := g9
    subst e
    exact ⟨x, h1, gx.2.2.1⟩
  · omega
theorem xphi_ok {m : Int} {σ : Nat → Int} {n k : Nat} {ph : pm_H} {fs : List (Nat × xv)} (hk : k < 17592186044416) (g : xfG xX m σ n ph fs) (h : xphi fs k ≤ 47) : ∃ x : Int32, xget ph (k / 4096) (k % 4096) = some (.int x) ∧ x.toInt ≤ xphi fs k := by
  unfold xphi at h ⊢
  split at h
  · next q hq =>
    have g9 := g _ _ (xlook_mem hq)
    unfold xfact at g9
    rw [if_pos hk] at g9
    obtain ⟨-, v, h1, x, e, gx⟩ := g9
    subst e
    exact ⟨x, h1, gx.2.2.2⟩
  · omega
/-- numbers of the fields that count -/
theorem xM_int {m : Int} {w k : Nat} {lo hi : Int} {ph : pm_H} {fts : List ((Int × Int) ⊕ Option Nat)} (hP : xH xX KC m w ph) (hf : xX.2.1 0 = some (some 170, .inr (13, fts))) (hk : fts[k]? = some (.inl (lo, hi))) : ∃ x : Int32, xget ph 170 k = some (.int x) ∧ lo ≤ x.toInt ∧ x.toInt ≤ hi := by
  obtain ⟨s, t, h1, -, h3⟩ := hP 170 0 (by decide +kernel)
  rw [hf] at h1
  cases h1
  obtain ⟨fl, hat, hfl⟩ := h3
  obtain ⟨v, hv, x, e, b1, b2⟩ := hfl k _ hk
  subst e
  refine ⟨x, ?_, b1, b2⟩
  unfold xget
  rw [hat]
  exact hv
theorem xialP_ok (hN : ∀ p, E p → xPG p) (hc : pm_code K mj pc = some (5, .iaload, aux)) (hg : xok xX K KC E d mj (pc + 1) g) : xok xX K KC E d mj pc (xialP g) := by
  intro D hD m hm n0 σ0 Fc cs ss k ρ G Q hB hkk hρ S h σ L st ph hS
  have dflt := xial_ok (X := xX) (K := K) (KC := KC) (E := E) hc hg D hD m hm n0 σ0 Fc cs ss k ρ G Q hB hkk hρ S
  unfold xialP at h
  split at h
  · next n A q u sa fs w F =>
    cases hb : (match xarr xX u with
      | some (i, _) => bif Nat.beq i 4 then xp5 q fs else false
      | none => false) with
    | false => rw [hb] at h; exact dflt h σ L st ph hS
    | true =>
      rw [hb] at h
      simp only [cond_true] at h
      split at hb
      case h_2 => cases hb
      next i rest ha =>
      obtain ⟨hi4, h5⟩ := x_and hb
      have := Nat.eq_of_beq_eq_true hi4
      subst this
      obtain ⟨s, kd, len, p, sg, v⟩ := rest
      obtain ⟨g1, g2, g3, g4, g5, g6, g7, g8, g9⟩ := hS
      match st, g5 with
      | v2 :: v1 :: r, ⟨⟨x, e2, gx⟩, ⟨a, j, e, ho, hj⟩, g5⟩ =>
        subst e e2
        obtain ⟨ho2, hct, hone, hcell⟩ := xarr_ok ha g7 ho hj
        have hct0 : xX.2.1 4 = some (some 174, .inl (0, 41, 41, [(8, some ((Int.ofNat 0), (Int.ofNat 48))), (32, some ((Int.negSucc 2147483647), (Int.ofNat 2147483647))), (40, some ((Int.ofNat 0), (Int.ofNat 48))), (41, none)], 0)) := rfl
        rw [hct0] at hct
        cases hct
        have := hone 174 rfl
        subst this
        obtain ⟨l, hat, hlen, hel⟩ := hcell
        unfold xp5 at h5
        obtain ⟨hC, h5⟩ := x_and h5
        have hC := zle_le hC
        obtain ⟨C, C1, C2⟩ := xphi_ok (k := 696324) (by decide) g6 (by omega)
        have q1 := gx.2.2.1
        have q2 := gx.2.2.2
        have fP := xM_int (k := 5) g7 rfl rfl
        have fT := xM_int (k := 6) g7 rfl rfl
        obtain ⟨P, P1, P2, P3⟩ := fP
        obtain ⟨T, T1, T2, T3⟩ := fT
        have hpos : 0 ≤ x.toInt ∧ x.toInt < 41 ∧ (x.toInt.toNat < P.toInt.toNat ∨ 32 ≤ x.toInt.toNat ∧ x.toInt.toNat < 32 + T.toInt.toNat) ∧ (x.toInt < 8 ∨ 32 ≤ x.toInt ∧ x.toInt < 40) := by
          cases hp : (bif zle 0 q.2.2.1 then bif zle (q.2.2.2 + 1) (xplo fs 696325) then zle (q.2.2.2 + 1) 8 else false else false) with
          | true =>
            obtain ⟨a1, hp⟩ := x_and hp
            obtain ⟨a2, a3⟩ := x_and hp
            have a1 := zle_le a1
            have a2 := zle_le a2
            have a3 := zle_le a3
            obtain ⟨P9, P91, P92⟩ := xplo_ok (k := 696325) (by decide) g6 (by omega)
            have e9 : xget ph 170 5 = some (.int P9) := P91
            rw [P1] at e9
            cases e9
            exact ⟨by omega, by omega, Or.inl (by omega), Or.inl (by omega)⟩
          | false =>
            rw [hp] at h5
            simp only [cond_false] at h5
            obtain ⟨a1, h5⟩ := x_and h5
            obtain ⟨a2, a3⟩ := x_and h5
            have a1 := zle_le a1
            have a2 := zle_le a2
            have a3 := zle_le a3
            obtain ⟨T9, T91, T92⟩ := xplo_ok (k := 696326) (by decide) g6 (by omega)
            have e9 : xget ph 170 6 = some (.int T9) := T91
            rw [T1] at e9
            cases e9
            exact ⟨by omega, by omega, Or.inr ⟨by omega, by omega⟩, Or.inr ⟨by omega, by omega⟩⟩
        obtain ⟨p1, p2, p3, p4⟩ := hpos
        have hlt : x.toInt.toNat < l.length := by omega
        obtain ⟨y, hy⟩ : ∃ y, l[x.toInt.toNat]? = some y := ⟨_, List.getElem?_eq_getElem hlt⟩
        have hget : xget ph 174 (0 + x.toInt.toNat) = some (.int y) := by
          rw [Nat.zero_add]
          unfold xget
          rw [hat]
          show (l[x.toInt.toNat]?).map Value.int = _
          rw [hy]
          rfl
        have hne := hN ph g9 C P T C1 P1 T1 (by omega) _ y p3 hget
        have hbd := hel _ y hy
        have hbd2 : 0 ≤ y.toInt ∧ y.toInt ≤ 48 := by
          have hmod : x.toInt.toNat % 41 = x.toInt.toNat := Nat.mod_eq_of_lt (by omega)
          rw [hmod] at hbd
          rcases p4 with p4 | p4
          · have e1 : Nat.blt x.toInt.toNat 8 = true := Nat.ble_eq_true_of_le (by omega)
            unfold xat at hbd
            rw [e1] at hbd
            exact hbd
          · have e1 : Nat.blt x.toInt.toNat 8 = false := by
              cases hq : Nat.blt x.toInt.toNat 8 with
              | false => rfl
              | true => have := Nat.le_of_ble_eq_true hq; omega
            have e2 : Nat.blt x.toInt.toNat 32 = false := by
              cases hq : Nat.blt x.toInt.toNat 32 with
              | false => rfl
              | true => have := Nat.le_of_ble_eq_true hq; omega
            have e3 : Nat.blt x.toInt.toNat 40 = true := Nat.ble_eq_true_of_le (by omega)
            unfold xat at hbd
            rw [e1] at hbd
            simp only [cond_false] at hbd
            unfold xat at hbd
            rw [e2] at hbd
            simp only [cond_false] at hbd
            unfold xat at hbd
            rw [e3] at hbd
            exact hbd
        have step : pm_step K false mj (pc, L, .int x :: .ref 174 :: r, ph, cs, ss) = some (.inl (pc + 1, L, .int y :: r, ph, cs, ss)) := xs5 hc (by
          unfold pm_mem
          simp only [hat, xix_eq p1, hy])
        have u1 : ∀ t, t < n → xup σ n y.toInt t = σ t := fun t ht => xup_lt ht
        exact hB.1 _ _ _ _ _ _ _ _ step (hg D hD m hm n0 σ0 Fc cs ss k ρ G Q hB hkk hρ _ h (xup σ n y.toInt) L _ ph ⟨by omega, fun t ht => by rw [u1 t (by omega)]; exact g2 t ht, g3, xlG_up u1 (by omega) g4, ⟨xvI (xfresh (by omega) (by omega)), xsG_up u1 (by omega) g5⟩, xfG_up u1 (by omega) g6, g7, xFG_up u1 (by omega) g8, g9⟩)
  · exact dflt h σ L st ph hS
/-- a position is put -/
noncomputable def xiasP (gA : List Nat) (gF : List (Nat × Nat)) (g : xb) : xb := fun k ρ S => match S with
  | (n, A, .inl z :: .inl q :: .inr (.inr (.inl u)) :: sa, fs, w, F) => (match xarr xX u with
    | some (i, s, kd, len, p, sg, _) => bif Nat.beq i 4 then (bif (bif Nat.beq kd 0 then bif xidx q len then bif xwok (xeacc z) sg p q.2.2.1.toNat q.2.2.2.toNat then (bif zle z.2.2.2 47 then true else zle 7 (xplo fs 696324)) else false else false else false) then g k ρ (n, A, sa, xwfs s q len (.inl z) fs, w, F) else false) else xias xX gA gF g k ρ S
    | none => false)
  | _ => false
theorem xiasP_ok {gA : List Nat} {gF : List (Nat × Nat)} (hS9 : xSt E) (hX : xsane xX gA gF) (hE : xHE xX gA gF E) (hc : pm_code K mj pc = some (5, .iastore, aux)) (hg : xok xX K KC E d mj (pc + 1) g) : xok xX K KC E d mj pc (xiasP gA gF g) := by
  intro D hD m hm n0 σ0 Fc cs ss k ρ G Q hB hkk hρ S h σ L st ph hS
  have dflt := xias_ok (K := K) (KC := KC) (E := E) hX hE hc hg D hD m hm n0 σ0 Fc cs ss k ρ G Q hB hkk hρ S
  unfold xiasP at h
  split at h
  · next n A z q u sa fs w F =>
    split at h
    · next i s kd len p sg v ha =>
      cases hi4 : Nat.beq i 4 with
      | false => rw [hi4] at h; exact dflt h σ L st ph hS
      | true =>
        rw [hi4] at h
        simp only [cond_true] at h
        have := Nat.eq_of_beq_eq_true hi4
        subst this
        have hcond := (x_and h).1
        replace h := (x_and h).2
        obtain ⟨hkd, hcond⟩ := x_and hcond
        obtain ⟨hix, hcond⟩ := x_and hcond
        obtain ⟨hacc, hgood⟩ := x_and hcond
        have := Nat.eq_of_beq_eq_true hkd
        subst this
        obtain ⟨g1, g2, g3, g4, g5, g6, g7, g8, g9⟩ := hS
        match st, g5 with
        | v3 :: v2 :: v1 :: r, ⟨⟨y, e3, gy⟩, ⟨x, e2, gx⟩, ⟨a, j, e, ho, hj⟩, g5⟩ =>
          subst e e2 e3
          obtain ⟨ho2, hct, hone, l, hat, hlen, hel⟩ := xarr_ok ha g7 ho hj
          obtain ⟨b1, b2, b3⟩ := xidx_ok hix gx
          have hlt : x.toInt.toNat < l.length := by omega
          have step : pm_step K false mj (pc, L, .int y :: .int x :: .ref a :: r, ph, cs, ss) = some (.inl (pc + 1, L, r, ph.set a (.inl (0, .inl (l.set x.toInt.toNat y))), cs, ss)) := xs5 hc (by
            unfold pm_mem
            simp only [hat, xup_eq b1 hlt])
          have ea : a = 174 := hone 174 (by
            have hs4 : ∃ t, xX.2.1 4 = some (some 174, t) := ⟨_, rfl⟩
            obtain ⟨t4, hs4⟩ := hs4
            rw [hct] at hs4
            cases hs4
            rfl)
          subst ea
          have hE9 : E (ph.set 174 (.inl (0, .inl (l.set x.toInt.toNat y)))) := by
            refine hS9 ph l _ y hat ?_ g9
            cases hz : zle z.2.2.2 47 with
            | true =>
              have := zle_le hz
              have := gy.2.2.2
              exact Or.inl (by omega)
            | false =>
              rw [hz] at hgood
              have h7 : (7 : Int) ≤ xplo fs 696324 := zle_le hgood
              obtain ⟨C, C1, C2⟩ := xplo_ok (k := 696324) (by decide) g6 (by omega)
              obtain ⟨C9, C3, C4, C5⟩ := xM_int (k := 4) g7 rfl rfl
              have e9 : xget ph 170 4 = some (.int C) := C1
              rw [C3] at e9
              cases e9
              have h77 : (Int.ofNat 7 : Int) = 7 := rfl
              exact Or.inr ⟨C, C3, by omega⟩
          refine hB.1 _ _ _ _ _ _ _ _ step ?_
          refine hg D hD m hm n0 σ0 Fc cs ss k ρ G Q hB hkk hρ _ h σ L _ _ (xias_core ho2 hct hone hat hlen hix gx hE9 (xvI gy) ⟨g1, g2, g3, g4, g5, g6, g7, g8, g9⟩ ?_)
          exact xeacc_ok g3.2.2 (xwok_ok (j := x.toInt.toNat) (by have := gx.2.2.1; omega) (by have := gx.2.2.2; omega) hacc) gy
    · cases h
  · cases h
end XPO
