/-! back, open: both answer alike; printed by wip/rel/r9.py -/
theorem zBk_u {E : zEn} {al : Nat → Bool} {x y : Int32} {v v2 : Option Value} (h : zBk E al x y v) (h2 : zBk E al x y v2) : v = v2 := by
  unfold zBk at h h2
  by_cases e : (0 ≤ x.toInt ∧ x.toInt < ((E.1 * E.2.1 : Nat) : Int)) ∧ 0 ≤ y.toInt ∧ y.toInt < ((E.1 * E.2.1 : Nat) : Int)
  · rw [if_pos e] at h h2
    exact zWy_u h h2
  · rw [if_neg e] at h h2
    rw [h, h2]
theorem zBk_hs {E : zEn} {al : Nat → Bool} {x y : Int32} {v : Option Value} (hN : E.1 * E.2.1 ≤ 49) (h : zBk E al x y v) : ∀ f t, f < E.1 * E.2.1 → t < E.1 * E.2.1 → E.2.2.1 f = false → E.2.2.1 t = false → x = zn f → y = zn t → zHsr E.1 E.2.1 t f (fun g => al g = true ∧ E.2.2.1 g = false) := by
  intro f t hf ht h1 h2 e1 e2
  subst e1 e2
  have t1 := znt (k := f) (by omega)
  have t2 := znt (k := t) (by omega)
  unfold zBk at h
  rw [if_pos ⟨⟨by omega, by omega⟩, by omega, by omega⟩, show (zn f).toInt.toNat = f by omega, show (zn t).toInt.toNat = t by omega] at h
  exact zWy_hs h h1 h2
theorem xrs_backE {x y : Int32} : xRs 164 281 [.int x, .int y] (fun a b => kI a ∧ a = b) := fun n hn ph ⟨hP, z, hR⟩ => by
  obtain ⟨v1, ph1, a1, q1, h1, r1⟩ := xrc_back n hn z ph hP hR
  obtain ⟨v2, ph2, a2, q2, h2, r2⟩ := xrm_back n hn z ph1 h1 r1
  have hS := xRE_S hP hR
  have hS1 := xRE_S h1 r1
  refine ⟨v1, v2, ph1, ph2, ⟨xat0 hP, xat170 h1⟩, a1, a2, ⟨q1, ?_⟩, h2, z, r2⟩
  obtain ⟨⟨R, C, rk, sn, sk⟩, ⟨cn, cd, cm, cdm⟩, ⟨F, F2, P, G, nx, u, fl, hn, ch⟩, ⟨v, w, sv, svm⟩, kp, kc⟩ := z
  obtain ⟨-, hpp, ⟨⟨hK, hX⟩, hcc⟩, -⟩ := hR
  obtain ⟨-, hpp1, -, hM, hE⟩ := r1
  have hN : R * C ≤ 49 := zRC49 hX.1.1.2.2.2.2.2.2.1 hX.1.1.2.2.2.2.2.2.2.2
  have w1 : zBk (R, C, rk, sn, sk, cn, cd) (fun g => !(zb (zAll (R, C, rk, sn, sk, cn, cd) P v) g)) x y (some v1) := zc_backX hS hX.1 ⟨⟨by decide, zSs_of hS (S := 25) (by decide)⟩, hK.2.1⟩ hpp.2.2.2.2.1.1 hX.2.1 hcc 600 _ a1
  have hs := zBk_hs (E := (R, C, rk, sn, sk, cn, cd)) hN w1
  have w2 : zBk (R, C, rk, sn, sk, cm, cdm) (fun g => !(zb (zAll (R, C, rk, sn, sk, cm, cdm) P v) g)) x y (some v2) := zm_backX hS1 hE hM.2.1 hM.2.2.1 hpp.2.2.2.2.1.1 (by
    intro f t hf ht c1 c2 c3 c4
    have h9 := hs f t hf ht c1 c2 c3 c4
    show zHsr R C t f (fun g => (fun g => !(zb (zAll (R, C, rk, sn, sk, cm, cdm) P v) g)) g = true ∧ rk g = false)
    rw [← zQ_All hpp.1]
    exact h9) 600 _ a2
  have w3 : zBk (R, C, rk, sn, sk, cn, cd) (fun g => !(zb (zAll (R, C, rk, sn, sk, cn, cd) P v) g)) x y (some v2) := by
    have h9 := w2
    rw [← zQ_All hpp.1] at h9
    exact h9
  exact Option.some.inj (zBk_u w1 w3)
theorem xrs_openE {x y : Int32} : xRs 165 282 [.int x, .int y] (fun a b => kI a ∧ a = b) := fun n hn ph ⟨hP, z, hR⟩ => by
  obtain ⟨v1, ph1, a1, q1, h1, r1⟩ := xrc_open n hn z ph hP hR
  obtain ⟨v2, ph2, a2, q2, h2, r2⟩ := xrm_open n hn z ph1 h1 r1
  have hS := xRE_S hP hR
  have hS1 := xRE_S h1 r1
  refine ⟨v1, v2, ph1, ph2, ⟨xat0 hP, xat170 h1⟩, a1, a2, ⟨q1, ?_⟩, h2, z, r2⟩
  obtain ⟨⟨R, C, rk, sn, sk⟩, ⟨cn, cd, cm, cdm⟩, ⟨F, F2, P, G, nx, u, fl, hn, ch⟩, ⟨v, w, sv, svm⟩, kp, kc⟩ := z
  obtain ⟨-, hpp, ⟨⟨hK, hX⟩, hcc⟩, -⟩ := hR
  obtain ⟨-, hpp1, -, hM, hE⟩ := r1
  have hN : R * C ≤ 49 := zRC49 hX.1.1.2.2.2.2.2.2.1 hX.1.1.2.2.2.2.2.2.2.2
  have w1 : zBk (R, C, rk, sn, sk, cn, cd) (fun _ => true) x y (some v1) := zc_openX hS hX.1 ⟨⟨by decide, zSs_of hS (S := 25) (by decide)⟩, hK.2.1⟩ hpp.2.2.2.2.1.1 hX.2.1 hcc 600 _ a1
  have hs := zBk_hs (E := (R, C, rk, sn, sk, cn, cd)) hN w1
  have w2 : zBk (R, C, rk, sn, sk, cm, cdm) (fun _ => true) x y (some v2) := zm_openX hS1 hE hM.2.1 hM.2.2.1 hpp.2.2.2.2.1.1 (by
    intro f t hf ht c1 c2 c3 c4
    have h9 := hs f t hf ht c1 c2 c3 c4
    exact h9) 600 _ a2
  have w3 : zBk (R, C, rk, sn, sk, cn, cd) (fun _ => true) x y (some v2) := by
    have h9 := w2
    exact h9
  exact Option.some.inj (zBk_u w1 w3)
