/-! the calls that change the relation, second half; printed by wip/rel/r4.py -/
/-- a DAY's acts are 30 at most -/
theorem zDo_30 {ln : Nat} {t : Nat → Nat} {ok : Bool} {a k : Nat} (h : zDo (min ln 60) t ok a k) : k ≤ 30 := by
  have h1 := zDp_ge h.1
  rcases h.2 with ⟨-, -, e⟩ | ⟨-, hb⟩
  · omega
  · have := hb.1
    omega
theorem zQ_goes {R C cn cm sn : Nat} {rk : Nat → Bool} {sk cd cdm : Nat → Nat} {P G N : Nat} {v : Nat → Nat} (h : zQe cn cd cm cdm) : zHqn (R, C, rk, sn, sk, cm, cdm) P G v N = zHqn (R, C, rk, sn, sk, cn, cd) P G v N := by rw [zQ_Hqn h]
theorem xrs_hoursE {x : Int32} : xRs 133 248 [.int x] (fun a b => kI a ∧ a = b) := fun n hn ph ⟨hP, z, hR⟩ => by
  obtain ⟨v1, p1, a1, q1, b1, c1, e1, d1, -⟩ := xrk_hours n hn z ph hP hR.1 hR.2.2.1.1 hR.2.2.1.2
  obtain ⟨⟨R, C, rk, sn, sk⟩, ⟨cn, cd, cm, cdm⟩, ⟨F, F2, P, G, nx, u, fl, hn, ch⟩, ⟨v, w, sv, svm⟩, kp, kc⟩ := z
  obtain ⟨hLE, hpp, ⟨⟨hK, hX⟩, hcc⟩, hM, hMe⟩ := hR
  have hpq := hpp
  obtain ⟨zq, zF, zk, zch, ⟨zO, z40⟩, zw, zs⟩ := hpq
  have hS := zSh_of hP hX.2.2.2.2
  have hP8 := hK.2.1.2.1
  have hu15 := hK.2.2.1.2.2.2.1
  have eL : zEQ tL ph p1 := zEQ_m (fun _ _ t => Or.inl t) e1
  have eM : zEQ tM ph p1 := zEQ_m (fun _ _ t => Or.inr (Or.inr (Or.inr (Or.inl t)))) e1
  have hX1 := zXc_Q b1 eL (zEQ_m (fun _ _ t => Or.inr (Or.inl t)) e1) (zEQ_m (fun _ _ t => Or.inr (Or.inr (Or.inl t))) e1) hX
  have hM1 := zKM_Q eM hM
  have hMe1 := zMe_Q eM hMe
  have hS1 := zSh_of b1 hX1.2.2.2.2
  replace d1 : zCc p1 R C rk := d1
  have hG8 := hK.2.1.2.2.2.1
  have W1 := zc_hours hS hK zO (x := x) (T := fun v2 y => v2 = zHqn (R, C, rk, sn, sk, cn, cd) P G v x.toInt.toNat ∧ y = zKw v2 P) (fun h0 h60 q fq => by
    have ex : x = zn x.toInt.toNat := zn_of (by omega)
    have eQ : ∀ a k, ¬ (31 ≤ a ∧ a ≤ 36) → zc q a k = zc ph a k := fun a k ha => fq.1 a k (by simp <;> omega) (by simp <;> omega)
    have hSq : zSh q := zSh_F fq (by decide +kernel) hS
    have hCq : zCe q (R, C, rk, sn, sk, cn, cd) F := zCe_Q hSq (fun a k t => eQ a k (by omega)) (fun a k t => eQ a k (by omega)) (fun a k t => eQ a k (by omega)) hX.1
    have hdq : zSd q 25 P G v := zSN_Q (fun a k t => eQ a k (by omega)) hK.2.1
    have h9 := zc_pass (S := 25) (N := x.toInt.toNat) hSq hCq ⟨⟨by decide, zSs_of hSq (by decide)⟩, hdq⟩ zO (Or.inl rfl) ((eQ 10 1 (by omega)).trans hX.2.1) (zCc_Q (fun a k t => eQ a k (by omega)) hcc) (by omega)
    rw [← ex] at h9
    refine zM_imp h9 (fun v0 q2 h => ⟨h.1, _, _, h.2.2.2, ?_, h.2.1.2, rfl, rfl⟩)
    obtain ⟨kk, k1, k2⟩ := zKw_b (v := zHqn (R, C, rk, sn, sk, cn, cd) P G v x.toInt.toNat) P hP8 (fun p hp => ((zHqn_ok zO hP8 hG8 _ (by omega)).1 p hp).2.2.2)
    rw [k2, znt (by omega)]
    omega) 600 _ a1
  obtain ⟨v2, p2, a2, r, rfl, b2, c2, i2, t2, k2⟩ := xw_hours (n := n) (p0 := x) (R := fun p => xtie p ∧ xSame xX zAC zFC p1 p) (xHE_and xHE_tie zRC_VR) (xLm_le (n := n + 1) (by omega)) xLm_0 (xLm_s (w := 99) (by decide)) (D := 600) (by decide) (xshift b1 (by decide)) c1.1.1 c1.2 ⟨c1.1.2, xSame_rf⟩
  have hLE2 : xLE (n + 1) p2 := ⟨⟨c2, t2⟩, xINV_le (Nat.le_succ n) i2⟩
  have e2 := zEQ_C b1 b2 k2
  have W2 := zm_hours hS1 hM1 zO (x := x) (T := fun v2 => v2 = zHqn (R, C, rk, sn, sk, cn, cd) P G v x.toInt.toNat) (fun h0 h60 q fq => by
    have eQ : ∀ a k, a ≠ 183 → ¬ (a = 170 ∧ k = 0) → zc q a k = zc p1 a k := fun a k h1 h2 => fq.1 a k (by simp <;> omega) (by simp <;> omega)
    have hSq : zSh q := zSh_F fq (by decide +kernel) hS1
    have hMq : zMl q R C rk := ⟨(eQ 170 3 (by omega) (by omega)).trans hM1.1.1, (eQ 170 4 (by omega) (by omega)).trans hM1.1.2.1, fun f hf => (eQ 172 f (by omega) (by omega)).trans (hM1.1.2.2.1 f hf), hM1.1.2.2.2⟩
    have hMeq : zMe q (R, C, rk, sn, sk, cm, cdm) := ⟨hMq, zMr_Q (fun a k t => eQ a k (by omega) (by omega)) hMe1.2.1, hMe1.2.2⟩
    have hNq : zMp q P G := ⟨(eQ 170 5 (by omega) (by omega)).trans hM1.2.1.1, hM1.2.1.2.1, (eQ 170 6 (by omega) (by omega)).trans hM1.2.1.2.2.1, hM1.2.1.2.2.2⟩
    have h9 := zm_goesOn (A := 174) (N := x.toInt.toNat) (y := x) hSq hMeq hNq (Or.inl rfl) (zNr_Q (fun k _ _ => eQ 174 k (by omega) (by omega)) hM1.2.2.1) zO (by omega) (by omega)
    refine zM_imp h9 (fun v0 q2 h => ⟨h.1, zFr_mono h.2.1 (by simp) (by simp), _, h.2.2, ?_, zQ_goes zq⟩)
    exact zHqn_ok zO hP8 hG8 _ (by omega)) 600 _ a2
  rcases W1 with ⟨g1, e3, K1⟩ | ⟨g1, g2, v9, y9, e3, ⟨rfl, rfl⟩, nx1, K1⟩
  · rcases W2 with ⟨g5, e4, K2⟩ | ⟨g5, g6, v9, e4, rfl, K2⟩
    · exact ⟨v1, .int r, p1, p2, ⟨xat0 hP, xat170 b1⟩, a1, a2, ⟨q1, (Option.some.inj e3).trans (Option.some.inj e4).symm⟩, xRI_fin b2 b1 hLE2 (zPP_le hpp) e2 K1 hX1 d1 K2 hMe1.2.1 hMe1.2.2⟩
    · omega
  · rcases W2 with ⟨g5, e4, K2⟩ | ⟨g5, g6, v9, e4, rfl, K2⟩
    · omega
    · have h40 := zHqn_40 (E := (R, C, rk, sn, sk, cn, cd)) (G := G) (v := v) hP8 x.toInt.toNat
      exact ⟨v1, .int r, p1, p2, ⟨xat0 hP, xat170 b1⟩, a1, a2, ⟨q1, (Option.some.inj e3).trans (Option.some.inj e4).symm⟩, xRI_fin b2 b1 hLE2 (zPP_push (nx' := nx1) hpp hu15 (zHqn_ok zO hP8 hG8 _ (by omega)) (by rw [h40]; omega)) e2 K1 hX1 d1 K2 hMe1.2.1 hMe1.2.2⟩
theorem zPv_40 {C P : Nat} {t v : Nat → Nat} : ∀ {k}, P + k ≤ 8 → (zPv C t P v k) 40 = v 40
  | 0, _ => rfl
  | k + 1, h => by
    show (zad (zPv C t P v k) (P + k) (zLf C t (5 * k)) (t (5 * k + 2) - 48) (t (5 * k + 3) - 48)) 40 = v 40
    rw [zad_o (by omega), zPv_40 (by omega)]
theorem zGv_40 {C G : Nat} {t v : Nat → Nat} : ∀ {k}, G + k ≤ 8 → (zGv C t G v k) 40 = v 40
  | 0, _ => rfl
  | k + 1, h => by
    show (znu (zGv C t G v k) (32 + (G + k)) (zLf C t (3 * k))) 40 = v 40
    rw [znu_n (by omega), zGv_40 (by omega)]
theorem zPP_new {n P' G' : Nat} {v' : Nat → Nat} {R C sn cn cm F F2 P G nx u fl hn ch : Nat} {rk kp : Nat → Bool} {sk cd cdm v kc : Nat → Nat} {w sv svm : Nat → Nat → Nat} (h : zPP n ((R, C, rk, sn, sk), (cn, cd, cm, cdm), (F, F2, P, G, nx, u, fl, hn, ch), (v, w, sv, svm), (kp, kc))) (hc : ∀ i, i < 3 → kc i ≤ ch) (hO : zOk R C P' G' v') (h40 : v' 40 ≤ 540 * (n + 1)) : zPP (n + 1) ((R, C, rk, sn, sk), (cn, cd, cm, cdm), (F, F2, P', G', nx, 0, 0, hn, (ch + 1)), (v', w, sv, svm), (kp, kc)) := by
  obtain ⟨h1, h2, h3, h4, h5, h6, h7⟩ := h
  refine ⟨h1, h2, fun i hi => ⟨?_, fun e => by rw [Nat.zero_testBit] at e; cases e⟩, by omega, ⟨hO, h40⟩, fun i hi => absurd hi (Nat.not_lt_zero i), fun i hi e => by rw [Nat.zero_testBit] at e; cases e⟩
  have := hc i hi
  rw [Nat.zero_testBit, decide_eq_false (show ¬ kc i = ch + 1 by omega), Bool.and_false]
theorem xrs_peopleE : xRs 125 208 [] (fun a b => kI a ∧ a = b) := fun n hn ph ⟨hP, z, hR⟩ => by
  obtain ⟨v1, p1, a1, q1, b1, c1, e1, d1, hy1⟩ := xrk_people n hn z ph hP ⟨hR.1.1.1, hR.1.2⟩ hR.2.2.1.1 hR.2.2.1.2
  obtain ⟨ln, t, hT, h14, h80, h176⟩ := zTX_of hP hR.1.1.2
  obtain ⟨⟨R, C, rk, sn, sk⟩, ⟨cn, cd, cm, cdm⟩, ⟨F, F2, P, G, nx, u, fl, hn, ch⟩, ⟨v, w, sv, svm⟩, kp, kc⟩ := z
  obtain ⟨hLE, hpp, ⟨⟨hK, hX⟩, hcc⟩, hM, hMe⟩ := hR
  have hpq := hpp
  obtain ⟨zq, zF, zk, zch, ⟨zO, z40⟩, zw, zs⟩ := hpq
  have hS := zSh_of hP hX.2.2.2.2
  have hP8 := hK.2.1.2.1
  have hG8 := hK.2.1.2.2.2.1
  have hu15 := hK.2.2.1.2.2.2.1
  have eL : zEQ tL ph p1 := zEQ_m (fun _ _ t => Or.inl t) e1
  have eM : zEQ tM ph p1 := zEQ_m (fun _ _ t => Or.inr (Or.inr (Or.inr (Or.inl t)))) e1
  have eT : zEQ tT ph p1 := zEQ_m (fun _ _ t => Or.inr (Or.inr (Or.inr (Or.inr t)))) e1
  have hX1 := zXc_Q b1 eL (zEQ_m (fun _ _ t => Or.inr (Or.inl t)) e1) (zEQ_m (fun _ _ t => Or.inr (Or.inr (Or.inl t))) e1) hX
  have hM1 := zKM_Q eM hM
  have hMe1 := zMe_Q eM hMe
  have hS1 := zSh_of b1 hX1.2.2.2.2
  have h14a := (eT 170 14 (by decide)).trans h14
  have h176a : ∀ i, i < ln → zc p1 176 i = some (.int (zn (t i))) ∧ t i < 256 := fun i hi => ⟨(eT 176 i (Or.inr rfl)).trans (h176 i hi).1, (h176 i hi).2⟩
  replace d1 : zCc p1 R C rk := d1
  obtain ⟨-, z3, e3, g3, W1⟩ := zc_people hS hT hX.2.2.2.1 hK 600 _ a1
  obtain ⟨v2, p2, a2, r, rfl, b2, c2, i2, ⟨y2, k2⟩, z2⟩ := xw_people (n := n) (R := fun p => yz1 p ∧ xSame xX zAC zFC p1 p) (xHE_and yz1_VU zRC_VU) (xLm_le (n := n + 1) (by omega)) xLm_0 (D := 600) (by omega) (by decide) (xshift b1 (by decide)) c1.1 c1.2 ⟨hy1, xSame_rf⟩
  have t2 : xtie p2 := ⟨0, y2, z2, fun i hi => by
    have h0 : (0 : Int32).toInt = 0 := by decide
    omega⟩
  have hLE2 : xLE (n + 1) p2 := ⟨⟨c2, t2⟩, i2⟩
  have e2 := zEQ_C b1 b2 k2
  obtain ⟨z4, e4, g4, W2⟩ := zm_people hS1 h14a h80 h176a hM1 (by omega) 600 _ a2
  rcases W1 with ⟨g5, K1⟩ | ⟨k, g5, g6, g9, K1⟩
  · rcases W2 with ⟨g7, K2⟩ | ⟨k', g7, g8, K2⟩
    · exact ⟨v1, .int r, p1, p2, ⟨xat0 hP, xat170 b1⟩, a1, a2, ⟨q1, (Option.some.inj e3).trans ((congrArg Value.int (Int32.toInt_inj.mp (g3.trans g4.symm))).trans (Option.some.inj e4).symm)⟩, xRI_fin b2 b1 hLE2 (zPP_le hpp) e2 K1 hX1 d1 K2 hMe1.2.1 hMe1.2.2⟩
    · omega
  · rcases W2 with ⟨g7, K2⟩ | ⟨k', g7, g8, K2⟩
    · omega
    · obtain rfl : k = k' := by omega
      have hk8 := K1.2.1.2.1
      have hO2 := zPv_ok hM1.1.2.2.2.1 hM1.1.2.2.2.2.2.1 zO g9 hk8
      have h40 := zPv_40 hk8 (C := C) (t := t) (v := v)
      exact ⟨v1, .int r, p1, p2, ⟨xat0 hP, xat170 b1⟩, a1, a2, ⟨q1, (Option.some.inj e3).trans ((congrArg Value.int (Int32.toInt_inj.mp (g3.trans g4.symm))).trans (Option.some.inj e4).symm)⟩, xRI_fin b2 b1 hLE2 (zPP_new hpp (fun i hi => (hM1.2.2.2.2.1.2.2 i hi).2.2.1) hO2 (by rw [h40]; omega)) e2 K1 hX1 d1 K2 hMe1.2.1 hMe1.2.2⟩
theorem xrs_thingsE : xRs 126 209 [] (fun a b => kI a ∧ a = b) := fun n hn ph ⟨hP, z, hR⟩ => by
  obtain ⟨v1, p1, a1, q1, b1, c1, e1, d1, hy1⟩ := xrk_things n hn z ph hP ⟨hR.1.1.1, hR.1.2⟩ hR.2.2.1.1 hR.2.2.1.2
  obtain ⟨ln, t, hT, h14, h80, h176⟩ := zTX_of hP hR.1.1.2
  obtain ⟨⟨R, C, rk, sn, sk⟩, ⟨cn, cd, cm, cdm⟩, ⟨F, F2, P, G, nx, u, fl, hn, ch⟩, ⟨v, w, sv, svm⟩, kp, kc⟩ := z
  obtain ⟨hLE, hpp, ⟨⟨hK, hX⟩, hcc⟩, hM, hMe⟩ := hR
  have hpq := hpp
  obtain ⟨zq, zF, zk, zch, ⟨zO, z40⟩, zw, zs⟩ := hpq
  have hS := zSh_of hP hX.2.2.2.2
  have hP8 := hK.2.1.2.1
  have hG8 := hK.2.1.2.2.2.1
  have hu15 := hK.2.2.1.2.2.2.1
  have eL : zEQ tL ph p1 := zEQ_m (fun _ _ t => Or.inl t) e1
  have eM : zEQ tM ph p1 := zEQ_m (fun _ _ t => Or.inr (Or.inr (Or.inr (Or.inl t)))) e1
  have eT : zEQ tT ph p1 := zEQ_m (fun _ _ t => Or.inr (Or.inr (Or.inr (Or.inr t)))) e1
  have hX1 := zXc_Q b1 eL (zEQ_m (fun _ _ t => Or.inr (Or.inl t)) e1) (zEQ_m (fun _ _ t => Or.inr (Or.inr (Or.inl t))) e1) hX
  have hM1 := zKM_Q eM hM
  have hMe1 := zMe_Q eM hMe
  have hS1 := zSh_of b1 hX1.2.2.2.2
  have h14a := (eT 170 14 (by decide)).trans h14
  have h176a : ∀ i, i < ln → zc p1 176 i = some (.int (zn (t i))) ∧ t i < 256 := fun i hi => ⟨(eT 176 i (Or.inr rfl)).trans (h176 i hi).1, (h176 i hi).2⟩
  replace d1 : zCc p1 R C rk := d1
  obtain ⟨-, z3, e3, g3, W1⟩ := zc_things hS hT hX.2.2.2.1 hK 600 _ a1
  obtain ⟨v2, p2, a2, r, rfl, b2, c2, i2, ⟨y2, k2⟩, z2⟩ := xw_things (n := n) (R := fun p => yz1 p ∧ xSame xX zAC zFC p1 p) (xHE_and yz1_VU zRC_VU) (xLm_le (n := n + 1) (by omega)) xLm_0 (D := 600) (by omega) (by decide) (xshift b1 (by decide)) c1.1 c1.2 ⟨hy1, xSame_rf⟩
  have t2 : xtie p2 := ⟨0, y2, z2, fun i hi => by
    have h0 : (0 : Int32).toInt = 0 := by decide
    omega⟩
  have hLE2 : xLE (n + 1) p2 := ⟨⟨c2, t2⟩, i2⟩
  have e2 := zEQ_C b1 b2 k2
  obtain ⟨z4, e4, g4, W2⟩ := zm_things hS1 h14a h80 h176a hM1 (by omega) 600 _ a2
  rcases W1 with ⟨g5, K1⟩ | ⟨k, g5, g6, g9, K1⟩
  · rcases W2 with ⟨g7, K2⟩ | ⟨k', g7, g8, K2⟩
    · exact ⟨v1, .int r, p1, p2, ⟨xat0 hP, xat170 b1⟩, a1, a2, ⟨q1, (Option.some.inj e3).trans ((congrArg Value.int (Int32.toInt_inj.mp (g3.trans g4.symm))).trans (Option.some.inj e4).symm)⟩, xRI_fin b2 b1 hLE2 (zPP_le hpp) e2 K1 hX1 d1 K2 hMe1.2.1 hMe1.2.2⟩
    · omega
  · rcases W2 with ⟨g7, K2⟩ | ⟨k', g7, g8, K2⟩
    · omega
    · obtain rfl : k = k' := by omega
      have hk8 := K1.2.1.2.2.2.1
      have hO2 := zGv_ok hM1.1.2.2.2.1 hM1.1.2.2.2.2.2.1 hP8 zO g9 hk8
      have h40 := zGv_40 hk8 (C := C) (t := t) (v := v)
      exact ⟨v1, .int r, p1, p2, ⟨xat0 hP, xat170 b1⟩, a1, a2, ⟨q1, (Option.some.inj e3).trans ((congrArg Value.int (Int32.toInt_inj.mp (g3.trans g4.symm))).trans (Option.some.inj e4).symm)⟩, xRI_fin b2 b1 hLE2 (zPP_new hpp (fun i hi => (hM1.2.2.2.2.1.2.2 i hi).2.2.1) hO2 (by rw [h40]; omega)) e2 K1 hX1 d1 K2 hMe1.2.1 hMe1.2.2⟩
theorem xrs_dayE : xRs 138 255 [] (fun a b => kI a ∧ a = b) := fun n hn ph ⟨hP, z, hR⟩ => by
  obtain ⟨v1, p1, a1, q1, b1, c1, e1, d1, hy1⟩ := xrk_day n hn z ph hP ⟨hR.1.1.1, hR.1.2⟩ hR.2.2.1.1 hR.2.2.1.2
  obtain ⟨ln, t, hT, h14, h80, h176⟩ := zTX_of hP hR.1.1.2
  obtain ⟨⟨R, C, rk, sn, sk⟩, ⟨cn, cd, cm, cdm⟩, ⟨F, F2, P, G, nx, u, fl, hn, ch⟩, ⟨v, w, sv, svm⟩, kp, kc⟩ := z
  obtain ⟨hLE, hpp, ⟨⟨hK, hX⟩, hcc⟩, hM, hMe⟩ := hR
  have hpq := hpp
  obtain ⟨zq, zF, zk, zch, ⟨zO, z40⟩, zw, zs⟩ := hpq
  have hS := zSh_of hP hX.2.2.2.2
  have hP8 := hK.2.1.2.1
  have hG8 := hK.2.1.2.2.2.1
  have hu15 := hK.2.2.1.2.2.2.1
  have eL : zEQ tL ph p1 := zEQ_m (fun _ _ t => Or.inl t) e1
  have eM : zEQ tM ph p1 := zEQ_m (fun _ _ t => Or.inr (Or.inr (Or.inr (Or.inl t)))) e1
  have eT : zEQ tT ph p1 := zEQ_m (fun _ _ t => Or.inr (Or.inr (Or.inr (Or.inr t)))) e1
  have hX1 := zXc_Q b1 eL (zEQ_m (fun _ _ t => Or.inr (Or.inl t)) e1) (zEQ_m (fun _ _ t => Or.inr (Or.inr (Or.inl t))) e1) hX
  have hM1 := zKM_Q eM hM
  have hMe1 := zMe_Q eM hMe
  have hS1 := zSh_of b1 hX1.2.2.2.2
  have h14a := (eT 170 14 (by decide)).trans h14
  have h176a : ∀ i, i < ln → zc p1 176 i = some (.int (zn (t i))) ∧ t i < 256 := fun i hi => ⟨(eT 176 i (Or.inr rfl)).trans (h176 i hi).1, (h176 i hi).2⟩
  replace d1 : zCc p1 R C rk := d1
  obtain ⟨-, -, -, -, ok, a9, k, y9, g1, e3, W1⟩ := zc_day hS hK hX.1 hX.2.1 hcc zO (by omega) hT 600 _ a1
  obtain ⟨v2, p2, a2, r, rfl, b2, c2, i2, ⟨y2, k2⟩, z2⟩ := xw_day (n := n) (R := fun p => yz1 p ∧ xSame xX zAC zFC p1 p) (xHE_and yz1_VS zRC_VS) (xLm_le (n := n + 1) (by omega)) xLm_0 (xLm_s (w := 540) (by decide)) (D := 600) (by decide) (xshift b1 (by decide)) c1.1 c1.2 ⟨hy1, xSame_rf⟩
  have t2 : xtie p2 := ⟨0, y2, z2, fun i hi => by
    have h0 : (0 : Int32).toInt = 0 := by decide
    omega⟩
  have hLE2 : xLE (n + 1) p2 := ⟨⟨c2, t2⟩, xINV_le (Nat.le_succ n) i2⟩
  have e2 := zEQ_C b1 b2 k2
  obtain ⟨-, -, -, ok', a9', k', y9', g1', e4, W2⟩ := zm_day hS1 hM1 hMe1 zO (by omega) h14a h80 h176a 600 _ a2
  obtain ⟨rfl, rfl, rfl⟩ := zDo_u g1 g1'
  rcases W1 with ⟨g5, g3, K1⟩ | ⟨g5, g6, i, v2', g7, g3, W1⟩
  · rcases W2 with ⟨g8, g4, K2⟩ | ⟨g8, g9, -⟩
    · exact ⟨v1, .int r, p1, p2, ⟨xat0 hP, xat170 b1⟩, a1, a2, ⟨q1, (Option.some.inj e3).trans ((congrArg Value.int (Int32.toInt_inj.mp (g3.trans g4.symm))).trans (Option.some.inj e4).symm)⟩, xRI_fin b2 b1 hLE2 (zPP_le hpp) e2 K1 hX1 d1 K2 hMe1.2.1 hMe1.2.2⟩
    · exact absurd ⟨g8, g9⟩ g5
  · rcases W2 with ⟨g8, g4, K2⟩ | ⟨g8, g9, i', v3', g10, g4, W2⟩
    · exact absurd ⟨g5, g6⟩ g8
    · rw [← zQ_As2 zq] at g10
      obtain ⟨rfl, rfl⟩ := zAs2_u g7 g10
      have hk30 := zDo_30 g1
      obtain ⟨hO2, h40⟩ := zAr_ok (E := (R, C, rk, sn, sk, cn, cd)) zO hP8 hG8 g1.1 (by omega) i g7.1 g7.2.1
      have hi30 := g7.1
      rcases W1 with ⟨g11, K1⟩ | ⟨g11, nx1, K1⟩
      · rcases W2 with ⟨g12, K2⟩ | ⟨g12, K2⟩
        · exact ⟨v1, .int r, p1, p2, ⟨xat0 hP, xat170 b1⟩, a1, a2, ⟨q1, (Option.some.inj e3).trans ((congrArg Value.int (Int32.toInt_inj.mp (g3.trans g4.symm))).trans (Option.some.inj e4).symm)⟩, xRI_fin b2 b1 hLE2 (zPP_set (nx' := nx) (u' := u) hpp (Nat.le_refl _) hO2 (by omega)) e2 K1 hX1 d1 K2 hMe1.2.1 hMe1.2.2⟩
        · omega
      · rcases W2 with ⟨g12, K2⟩ | ⟨g12, K2⟩
        · omega
        · exact ⟨v1, .int r, p1, p2, ⟨xat0 hP, xat170 b1⟩, a1, a2, ⟨q1, (Option.some.inj e3).trans ((congrArg Value.int (Int32.toInt_inj.mp (g3.trans g4.symm))).trans (Option.some.inj e4).symm)⟩, xRI_fin b2 b1 hLE2 (zPP_push (nx' := nx1) hpp hu15 hO2 (by omega)) e2 K1 hX1 d1 K2 hMe1.2.1 hMe1.2.2⟩
theorem xrs_signE {x : Int32} : xRs 122 193 [.int x] (fun a b => kI a ∧ a = b) := fun n hn ph ⟨hP, z, hR⟩ => by
  obtain ⟨r, p1, p2, a1, a2, b1, b2, c2⟩ := xsignE (n := n) (xLm_le (by omega)) xLm_0 (D := 600) (by decide) (y := x) hP hR.1
  obtain ⟨w1, q1, r1, s1, t1, -, -⟩ := xn_122_0 (E := fun p => xSame xX zAP zFP ph p) (xHE_sub (by decide +kernel) (by decide +kernel) xHE_slf) 600 (by decide) (xLm n) (xLm_le (by omega)) xLm_0 [.ref 0, .int x] ph ⟨xaRi rfl (by decide), xaT, trivial⟩ (fun _ _ h => absurd h List.not_mem_nil) hP xSame_rf
  have e1 := yRd_det _ _ _ _ _ _ _ a1 r1
  cases e1
  obtain ⟨w2, q2, r2, s2, t2, -, -⟩ := xn_193_0 (E := fun p => xSame xX zAP zFP p1 p) (xHE_sub (by decide +kernel) (by decide +kernel) xHE_slf) 600 (by decide) (xLm n) (xLm_le (by omega)) xLm_0 [.ref 170, .int x] p1 ⟨xaRi rfl (by decide), xaT, trivial⟩ (fun _ _ h => absurd h List.not_mem_nil) b1 xSame_rf
  have e2 := yRd_det _ _ _ _ _ _ _ a2 r2
  cases e2
  exact ⟨.int r, .int r, p1, p2, ⟨xat0 hP, xat170 b1⟩, a1, a2, ⟨⟨r, rfl⟩, rfl⟩, xshift b2 (by decide), z, xRE_Q b2 (xLE_le c2) (zEQ_t (zEQ_P hP b1 t1) (zEQ_P b1 b2 t2)) hR⟩
theorem xrs_endE {x : Int32} : xRs 123 194 [.int x] (fun a b => kI a ∧ a = b) := fun n hn ph ⟨hP, z, hR⟩ => by
  obtain ⟨r, p1, p2, a1, a2, b1, b2, c2⟩ := xendE (n := n) (xLm_le (by omega)) xLm_0 (D := 600) (by decide) (y := x) hP hR.1
  obtain ⟨w1, q1, r1, s1, t1, -, -⟩ := xn_123_0 (E := fun p => xSame xX zAP zFP ph p) (xHE_sub (by decide +kernel) (by decide +kernel) xHE_slf) 600 (by decide) (xLm n) (xLm_le (by omega)) xLm_0 [.ref 0, .int x] ph ⟨xaRi rfl (by decide), xaT, trivial⟩ (fun _ _ h => absurd h List.not_mem_nil) hP xSame_rf
  have e1 := yRd_det _ _ _ _ _ _ _ a1 r1
  cases e1
  obtain ⟨w2, q2, r2, s2, t2, -, -⟩ := xn_194_0 (E := fun p => xSame xX zAP zFP p1 p) (xHE_sub (by decide +kernel) (by decide +kernel) xHE_slf) 600 (by decide) (xLm n) (xLm_le (by omega)) xLm_0 [.ref 170, .int x] p1 ⟨xaRi rfl (by decide), xaT, trivial⟩ (fun _ _ h => absurd h List.not_mem_nil) b1 xSame_rf
  have e2 := yRd_det _ _ _ _ _ _ _ a2 r2
  cases e2
  exact ⟨.int r, .int r, p1, p2, ⟨xat0 hP, xat170 b1⟩, a1, a2, ⟨⟨r, rfl⟩, rfl⟩, xshift b2 (by decide), z, xRE_Q b2 (xLE_le c2) (zEQ_t (zEQ_P hP b1 t1) (zEQ_P b1 b2 t2)) hR⟩
/-- the class's half of valley, light: no view, the frame T of what stays -/
theorem xhalf {E0 : pm_H → Prop} {d j : Nat} {gA : List Nat} {gF : List (Nat × Nat)} {sA : List Nat} {sF : List (Nat × Nat)} {res : Option xh} {n : Nat} {ph : pm_H} (hn : n ≤ 512) (hP : xH xX kK (xLm n) 0 ph) (h0 : xHE xX gA gF E0) (s1 : sA.all (fun i => xmemN gA i) = true) (s2 : sF.all (fun p => xmemP gF p.1 p.2) = true) (hm : ∀ {E : pm_H → Prop}, xHE xX gA gF E → xcon xX kK E d j [.inr (.inr (.inl 31))] [] 0 res [(4097, .inl (Int.ofNat 0, Int.ofNat 0))]) (hd : d ≤ 600) (hr : ∀ m v, xhR xX m v res → ∃ u, v = some u ∧ kI u) (g : E0 ph) : ∃ v p1, pm_Rd kK false 600 j [.ref 0] ph (some v, p1, 0, 0) ∧ kI v ∧ xH xX kK (xLm n) 0 p1 ∧ E0 p1 ∧ xSame xX sA sF ph p1 ∧ yz1 p1 := by
  obtain ⟨v0, p1, a, b, c, e, f⟩ := hm (E := fun p => E0 p ∧ xSame xX sA sF ph p) (xHE_and h0 (xHE_sub s1 s2 xHE_slf)) 600 hd (xLm n) (xLm_le (by omega)) xLm_0 [.ref 0] ph ⟨xaRi rfl (by decide), trivial⟩ (fun _ _ h => absurd h List.not_mem_nil) hP ⟨g, xSame_rf⟩
  obtain ⟨u, rfl, q⟩ := hr _ _ e
  exact ⟨u, p1, a, q, b, c.1, c.2, yz1_F _ _ f⟩
theorem xVI_G34 (n : Nat) : xHE xX xgA_G34 xgF_G34 (xVI n) := xVI_G (by decide +kernel) (by decide +kernel) n
theorem xVI_G37 (n : Nat) : xHE xX xgA_G37 xgF_G37 (xVI n) := xVI_G (by decide +kernel) (by decide +kernel) n
theorem xVI_G38 (n : Nat) : xHE xX xgA_G38 xgF_G38 (xVI n) := xVI_G (by decide +kernel) (by decide +kernel) n
theorem xrs_valleyE : xRs 124 202 [] (fun a b => kI a ∧ a = b) := fun n hn ph ⟨hP, z, hR⟩ => by
  obtain ⟨v1, p1, a1, q1, b1, c1, s1, hy1⟩ := xhalf (E0 := xVI n) (sA := zAV) (sF := zFV) hn hP (xVI_G34 n) (by decide +kernel) (by decide +kernel) (fun h => xn_124_0 h) (by decide) (fun _ _ h => yri h) ⟨hR.1.1.1, hR.1.2⟩
  have e1 := zEQ_V hP b1 s1
  obtain ⟨ln, t, hT, h14, h80, h176⟩ := zTX_of hP hR.1.1.2
  obtain ⟨⟨R, C, rk, sn, sk⟩, ⟨cn, cd, cm, cdm⟩, ⟨F, F2, P, G, nx, u, fl, hn, ch⟩, ⟨v, w, sv, svm⟩, kp, kc⟩ := z
  obtain ⟨hLE, hpp, ⟨⟨hK, hX⟩, hcc⟩, hM, hMe⟩ := hR
  replace hcc : zCc ph R C rk := hcc
  have hpq := hpp
  obtain ⟨zq, zF, zk, zch, ⟨zO, z40⟩, zw, zs⟩ := hpq
  have hS := zSh_of hP hX.2.2.2.2
  have eM : zEQ tM ph p1 := zEQ_m (fun _ _ t => (Or.inr (Or.inr (Or.inl t)))) e1
  have eT : zEQ tT ph p1 := zEQ_m (fun _ _ t => (Or.inr (Or.inr (Or.inr t)))) e1
  have eX : zEQ tX ph p1 := zEQ_m (fun _ _ t => (Or.inr (Or.inl t))) e1
  have h4 := zs44_Q eX hX.2.2.2.2
  have hS1 := zSh_of b1 h4
  have hM1 := zKM_Q eM hM
  have hMe1 := zMe_Q eM hMe
  have h14a := (eT 170 14 (by decide)).trans h14
  have h176a : ∀ i, i < ln → zc p1 176 i = some (.int (zn (t i))) ∧ t i < 256 := fun i hi => ⟨(eT 176 i (Or.inr rfl)).trans (h176 i hi).1, (h176 i hi).2⟩
  have eI : zEQ tI ph p1 := zEQ_m (fun _ _ t => Or.inl t) e1
  obtain ⟨z3, e3, g3, W1⟩ := zc_valley hS hT hK 600 _ a1
  obtain ⟨v2, p2, a2, r, rfl, b2, c2, i2, ⟨y2, k2⟩, z2⟩ := xw_valley (n := n) (R := fun p => yz1 p ∧ xSame xX zAC zFC p1 p) (xHE_and yz1_VU zRC_VU) (xLm_le (n := n + 1) (by omega)) xLm_0 (D := 600) (by omega) (by decide) (xshift b1 (by decide)) c1.1 c1.2 ⟨hy1, xSame_rf⟩
  have t2 : xtie p2 := ⟨0, y2, z2, fun i hi => by
    have h0 : (0 : Int32).toInt = 0 := by decide
    omega⟩
  have hLE2 : xLE (n + 1) p2 := ⟨⟨c2, t2⟩, i2⟩
  have e2 := zEQ_C b1 b2 k2
  obtain ⟨z4, e4, g4, W2⟩ := zm_valley hS1 h14a h80 h176a hM1 (by omega) 600 _ a2
  have hi1 := zCi_Q eI hX.1.2.1
  have hf1 := zFm_Q hS1 hX.1.2.2.2 eX hX.1.2.2.1
  rcases W1 with ⟨g5, d1, K1⟩ | ⟨g5, K1, f1⟩
  · rcases W2 with ⟨g6, K2⟩ | ⟨g6, K2⟩
    · have hX1 : zXc p1 (zVd ln t 0, zVd ln t 1, zVr t, sn, sk, cn, cd) F F2 := ⟨⟨K1.1, hi1, hf1, hX.1.2.2.2⟩, (eX 10 1 (by decide)).trans hX.2.1, (eX 10 2 (by decide)).trans hX.2.2.1, zBd_Q eX hX.2.2.2.1, h4⟩
      have hpn : zPP (n + 1) ((zVd ln t 0, zVd ln t 1, zVr t, sn, sk), (cn, cd, cm, cdm), (F, F2, 0, 0, nx, 0, 0, 0, (ch + 1)), ((znu v 40 0), w, sv, svm), (kp, kc)) := by
        refine ⟨zq, zF, fun i hi => ⟨?_, fun e => by rw [Nat.zero_testBit] at e; cases e⟩, by omega, ⟨⟨fun p hp => absurd hp (Nat.not_lt_zero p), fun t ht => absurd ht (Nat.not_lt_zero t), ?_⟩, ?_⟩, fun i hi => absurd hi (Nat.not_lt_zero i), fun i hi e => by rw [Nat.zero_testBit] at e; cases e⟩
        · have := (hM1.2.2.2.2.1.2.2 i hi).2.2.1
          rw [Nat.zero_testBit, decide_eq_false (show ¬ kc i = ch + 1 by omega), Bool.and_false]
        · rw [znu_e]
          decide
        · rw [znu_e]
          omega
      exact ⟨v1, .int r, p1, p2, ⟨xat0 hP, xat170 b1⟩, a1, a2, ⟨q1, (Option.some.inj e3).trans ((congrArg Value.int (Int32.toInt_inj.mp (g3.trans g4.symm))).trans (Option.some.inj e4).symm)⟩, xRI_fin b2 b1 hLE2 (hpn) e2 K1 hX1 d1 K2 hMe1.2.1 hMe1.2.2⟩
    · exact absurd g5 g6
  · rcases W2 with ⟨g6, K2⟩ | ⟨g6, K2⟩
    · exact absurd g6 g5
    · have eF : ∀ a k, ¬ (a = 1 ∧ k = 1) → zc p1 a k = zc ph a k := fun a k h => f1.1 a k (by simp) (by simp <;> omega)
      have hX1 := zXc_Q b1 (fun a k t => eF a k (by omega)) eI eX hX
      have d1 := zCc_Q (q := p1) (fun a k t => eF a k (by omega)) hcc
      exact ⟨v1, .int r, p1, p2, ⟨xat0 hP, xat170 b1⟩, a1, a2, ⟨q1, (Option.some.inj e3).trans ((congrArg Value.int (Int32.toInt_inj.mp (g3.trans g4.symm))).trans (Option.some.inj e4).symm)⟩, xRI_fin b2 b1 hLE2 (zPP_le hpp) e2 K1 hX1 d1 K2 hMe1.2.1 hMe1.2.2⟩
theorem zLm_20 {ln : Nat} {t : Nat → Nat} {k : Nat} (h : zLm ln t k) : k ≤ 20 ∧ ∀ i, i < k → t i - 48 ≤ 9 := ⟨h.2.1, fun i hi => by have := zdi_d (h.2.2.1 i hi); omega⟩
/-- the reference's light, rule, law: what is left of the text's tie -/
theorem xrs_lightE : xRs 127 210 [] (fun a b => kI a ∧ a = b) := fun n hn ph ⟨hP, z, hR⟩ => by
  obtain ⟨v1, p1, a1, q1, b1, c1, s1, hy1⟩ := xhalf (E0 := xVI n) (sA := zAU) (sF := zFU) hn hP (xVI_G37 n) (by decide +kernel) (by decide +kernel) (fun h => xn_127_0 h) (by decide) (fun _ _ h => yri h) ⟨hR.1.1.1, hR.1.2⟩
  have e1 := zEQ_U hP b1 s1
  obtain ⟨ln, t, hT, h14, h80, h176⟩ := zTX_of hP hR.1.1.2
  obtain ⟨⟨R, C, rk, sn, sk⟩, ⟨cn, cd, cm, cdm⟩, ⟨F, F2, P, G, nx, u, fl, hn, ch⟩, ⟨v, w, sv, svm⟩, kp, kc⟩ := z
  obtain ⟨hLE, hpp, ⟨⟨hK, hX⟩, hcc⟩, hM, hMe⟩ := hR
  replace hcc : zCc ph R C rk := hcc
  have hpq := hpp
  obtain ⟨zq, zF, zk, zch, ⟨zO, z40⟩, zw, zs⟩ := hpq
  have hS := zSh_of hP hX.2.2.2.2
  have eM : zEQ tM ph p1 := zEQ_m (fun _ _ t => (Or.inr (Or.inr (Or.inr (Or.inr (Or.inl t)))))) e1
  have eT : zEQ tT ph p1 := zEQ_m (fun _ _ t => (Or.inr (Or.inr (Or.inr (Or.inr (Or.inr (Or.inr t))))))) e1
  have eX : zEQ tX ph p1 := zEQ_m (fun _ _ t => (Or.inr (Or.inr (Or.inr (Or.inl t))))) e1
  have h4 := zs44_Q eX hX.2.2.2.2
  have hS1 := zSh_of b1 h4
  have hM1 := zKM_Q eM hM
  have hMe1 := zMe_Q eM hMe
  have h14a := (eT 170 14 (by decide)).trans h14
  have h176a : ∀ i, i < ln → zc p1 176 i = some (.int (zn (t i))) ∧ t i < 256 := fun i hi => ⟨(eT 176 i (Or.inr rfl)).trans (h176 i hi).1, (h176 i hi).2⟩
  obtain ⟨f1, -, k, y9, g5, e3, W1⟩ := zc_lightR hS hT 600 _ a1
  obtain ⟨v2, p2, a2, r, rfl, b2, c2, i2, y2, z2⟩ := xcr_light n (by omega) p1 b1 c1.1 c1.2 hy1
  have t2 : xtie p2 := ⟨0, y2, z2, fun i hi => by
    have h0 : (0 : Int32).toInt = 0 := by decide
    omega⟩
  have hLE2 : xLE (n + 1) p2 := ⟨⟨c2, t2⟩, i2⟩
  obtain ⟨f2, -, -, k', y9', g6, e4, W2⟩ := zm_lightR hS1 h14a h80 h176a 600 _ a2
  obtain rfl := zLm_u g5 g6
  have eF : ∀ a k, a ≠ 21 → ¬ (a = 10 ∧ k = 4) → ¬ (a = 1 ∧ k = 1) → zc p1 a k = zc ph a k := fun a k h1 h2 h3 => f1.1 a k (by simp <;> omega) (by simp <;> omega)
  have eG : ∀ a k, a ≠ 173 → a ≠ 178 → ¬ (a = 170 ∧ (k = 0 ∨ k = 8 ∨ k = 14 ∨ k = 15 ∨ k = 16 ∨ k = 17)) → zc p2 a k = zc p1 a k := fun a k h1 h2 h3 => f2.1 a k (by simp <;> omega) (by simp <;> omega)
  have K1 := zKC_Q (fun a k t => eF a k (by omega) (by omega) (by omega)) (fun a k t => eF a k (by omega) (by omega) (by omega)) (fun a k t => eF a k (by omega) (by omega) (by omega)) hK
  have d1 := zCc_Q (q := p1) (fun a k t => eF a k (by omega) (by omega) (by omega)) hcc
  have K2 := zKC_Q (q := p2) (fun a k t => eG a k (by omega) (by omega) (by omega)) (fun a k t => eG a k (by omega) (by omega) (by omega)) (fun a k t => eG a k (by omega) (by omega) (by omega)) K1
  have d2 := zCc_Q (q := p2) (fun a k t => eG a k (by omega) (by omega) (by omega)) d1
  have hMl2 : zMl p2 R C rk := ⟨(eG 170 3 (by omega) (by omega) (by omega)).trans hM1.1.1, (eG 170 4 (by omega) (by omega) (by omega)).trans hM1.1.2.1, fun f hf => (eG 172 f (by omega) (by omega) (by omega)).trans (hM1.1.2.2.1 f hf), hM1.1.2.2.2⟩
  have hM2 : zKM p2 R C rk P G v u w ch kp kc svm hn := ⟨hMl2, ⟨(eG 170 5 (by omega) (by omega) (by omega)).trans hM1.2.1.1, hM1.2.1.2.1, (eG 170 6 (by omega) (by omega) (by omega)).trans hM1.2.1.2.2.1, hM1.2.1.2.2.2⟩, zNr_Q (fun k _ _ => eG 174 k (by omega) (by omega) (by omega)) hM1.2.2.1, ⟨(eG 170 27 (by omega) (by omega) (by omega)).trans hM1.2.2.2.1.1, hM1.2.2.2.1.2.1, fun i hi => zNr_Q (fun k _ _ => eG 183 k (by omega) (by omega) (by omega)) (hM1.2.2.2.1.2.2 i hi)⟩, ⟨(eG 170 7 (by omega) (by omega) (by omega)).trans hM1.2.2.2.2.1.1, hM1.2.2.2.2.1.2.1, fun i hi => by
    obtain ⟨h1, h2, h3, h5⟩ := hM1.2.2.2.2.1.2.2 i hi
    exact ⟨(eG 198 i (by omega) (by omega) (by omega)).trans h1, (eG 199 i (by omega) (by omega) (by omega)).trans h2, h3, fun e => zNr_Q (fun k _ _ => eG 200 k (by omega) (by omega) (by omega)) (h5 e)⟩⟩, (eG 170 39 (by omega) (by omega) (by omega)).trans hM1.2.2.2.2.2.1, hM1.2.2.2.2.2.2⟩
  have hS2 := zSh_of b2 (zs44_Q (q := p2) (fun a k t => eG a k (by omega) (by omega) (by omega)) h4)
  have eX2 : zEQ tX p1 p2 := fun a k t => eG a k (by omega) (by omega) (by omega)
  have hf2 := zFm_Q hS2 hX.1.2.2.2 eX2 (zFm_Q hS1 hX.1.2.2.2 eX hX.1.2.2.1)
  have hB2 := zBd_Q eX2 (zBd_Q eX hX.2.2.2.1)
  have h42 := zs44_Q eX2 h4
  have h101 := (eX2 10 1 (by decide)).trans ((eX 10 1 (by decide)).trans hX.2.1)
  have h102 := (eX2 10 2 (by decide)).trans ((eX 10 2 (by decide)).trans hX.2.2.1)
  obtain ⟨h20, h9⟩ := zLm_20 g5
  rcases W1 with ⟨g7, g8, g3, h10, h21⟩ | ⟨g7, g3, h10, h21⟩
  · rcases W2 with ⟨g9, g10, g4, h8, h173⟩ | ⟨g9, g4, h8, h173⟩
    · subst g8
      have hi2 : zCi p2 k (fun i => t i - 48) := ⟨(eG 10 4 (by omega) (by omega) (by omega)).trans h10, by omega, h20, fun i hi => ⟨(eG 21 i (by omega) (by omega) (by omega)).trans (h21 i hi), h9 i hi⟩⟩
      have hr2 : zMr p2 k (fun i => t i - 48) cm cdm := ⟨h8, by omega, h20, fun i hi => ⟨h173 i hi, h9 i hi⟩, (eG 170 23 (by omega) (by omega) (by omega)).trans hMe1.2.1.2.2.2.2.1, hMe1.2.1.2.2.2.2.2.1, fun i hi => ⟨(eG 179 i (by omega) (by omega) (by omega)).trans (hMe1.2.1.2.2.2.2.2.2 i hi).1, (hMe1.2.1.2.2.2.2.2.2 i hi).2⟩⟩
      exact ⟨v1, .int r, p1, p2, ⟨xat0 hP, xat170 b1⟩, a1, a2, ⟨q1, (Option.some.inj e3).trans ((congrArg Value.int (Int32.toInt_inj.mp (g3.trans g4.symm))).trans (Option.some.inj e4).symm)⟩, b2, ((R, C, rk, k, (fun i => t i - 48)), (cn, cd, cm, cdm), (F, F2, P, G, nx, u, fl, hn, ch), (v, w, sv, svm), (kp, kc)), hLE2, zPP_le hpp, ⟨⟨K2, ⟨K2.1, hi2, hf2, hX.1.2.2.2⟩, h101, h102, hB2, h42⟩, d2⟩, hM2, hMl2, hr2, hMe1.2.2⟩
    · omega
  · rcases W2 with ⟨g9, g10, g4, h8, h173⟩ | ⟨g9, g4, h8, h173⟩
    · omega
    · have hi2 : zCi p2 sn sk := ⟨(eG 10 4 (by omega) (by omega) (by omega)).trans (h10.trans hX.1.2.1.1), hX.1.2.1.2.1, hX.1.2.1.2.2.1, fun i hi => ⟨(eG 21 i (by omega) (by omega) (by omega)).trans ((h21 i).trans (hX.1.2.1.2.2.2 i hi).1), (hX.1.2.1.2.2.2 i hi).2⟩⟩
      have hr2 : zMr p2 sn sk cm cdm := ⟨h8.trans hMe1.2.1.1, hMe1.2.1.2.1, hMe1.2.1.2.2.1, fun i hi => ⟨(h173 i).trans (hMe1.2.1.2.2.2.1 i hi).1, (hMe1.2.1.2.2.2.1 i hi).2⟩, (eG 170 23 (by omega) (by omega) (by omega)).trans hMe1.2.1.2.2.2.2.1, hMe1.2.1.2.2.2.2.2.1, fun i hi => ⟨(eG 179 i (by omega) (by omega) (by omega)).trans (hMe1.2.1.2.2.2.2.2.2 i hi).1, (hMe1.2.1.2.2.2.2.2.2 i hi).2⟩⟩
      exact ⟨v1, .int r, p1, p2, ⟨xat0 hP, xat170 b1⟩, a1, a2, ⟨q1, (Option.some.inj e3).trans ((congrArg Value.int (Int32.toInt_inj.mp (g3.trans g4.symm))).trans (Option.some.inj e4).symm)⟩, b2, ((R, C, rk, sn, sk), (cn, cd, cm, cdm), (F, F2, P, G, nx, u, fl, hn, ch), (v, w, sv, svm), (kp, kc)), hLE2, zPP_le hpp, ⟨⟨K2, ⟨K2.1, hi2, hf2, hX.1.2.2.2⟩, h101, h102, hB2, h42⟩, d2⟩, hM2, hMl2, hr2, hMe1.2.2⟩
/-- codes laid latest first, in their order -/
theorem zFc_m {q : pm_H} {F : Nat} {Cs : List Nat} (h : zFc q F Cs) : ∀ i, i < Cs.length → zc q (F + 1) i = some (.int (zcc (Cs.reverse.getD i 0))) := fun i hi => by
  have e1 : Cs[Cs.length - 1 - i]? = some (Cs.reverse.getD i 0) := by
    rw [List.getD_eq_getElem?_getD, List.getElem?_reverse hi, List.getElem?_eq_getElem (by omega)]
    rfl
  have h1 := (h.2 _ _ e1).1
  rwa [show Cs.length - 1 - (Cs.length - 1 - i) = i by omega] at h1
theorem zcg_0 : zcg ([2004, 1000, 1001] : List Nat).length (fun i => ([2004, 1000, 1001] : List Nat).reverse.getD i 0) := by
  refine ⟨fun _ => by decide, fun k hk => ?_⟩
  have hk : k < 3 := hk
  rcases (show k = 0 ∨ k = 1 ∨ k = 2 by omega) with e | e | e <;> subst e <;> decide
/-- what both read of a RULE -/
theorem zrule_cds {ln a2 : Nat} {t : Nat → Nat} {cs2 Cs : List Nat} (h : zRu ln t true a2 cs2) (hl : cs2.length ≤ 40) (hc : (ln = 0 ∧ Cs = [2004, 1000, 1001] ∧ cs2 = []) ∨ (0 < ln ∧ ln ≤ 40 ∧ Cs = cs2)) : zcg Cs.length (fun i => Cs.reverse.getD i 0) ∧ 1 ≤ Cs.length ∧ Cs.length ≤ 40 ∧ zcg cs2.length (fun i => cs2.reverse.getD i 0) ∧ zQe Cs.length (fun i => Cs.reverse.getD i 0) cs2.length (fun i => cs2.reverse.getD i 0) := by
  obtain ⟨g1, g2⟩ := zRu_cg h
  rcases hc with ⟨e1, e2, e3⟩ | ⟨h0, -, e⟩
  · subst e2 e3
    exact ⟨zcg_0, by decide, by decide, g1, Or.inr ⟨rfl, rfl, rfl, rfl, rfl⟩⟩
  · subst e
    exact ⟨g1, g2 h0, hl, g1, Or.inl ⟨rfl, rfl⟩⟩
theorem xrs_ruleE : xRs 128 217 [] (fun a b => kI a ∧ a = b) := fun n hn ph ⟨hP, z, hR⟩ => by
  obtain ⟨v1, p1, a1, q1, b1, c1, s1, hy1⟩ := xhalf (E0 := xVI n) (sA := []) (sF := []) hn hP (xVI_G38 n) rfl rfl (fun h => xn_128_0 h) (by decide) (fun _ _ h => yri h) ⟨hR.1.1.1, hR.1.2⟩
  obtain ⟨ln, t, hT, h14, h80, h176⟩ := zTX_of hP hR.1.1.2
  obtain ⟨⟨R, C, rk, sn, sk⟩, ⟨cn, cd, cm, cdm⟩, ⟨F, F2, P, G, nx, u, fl, hn, ch⟩, ⟨v, w, sv, svm⟩, kp, kc⟩ := z
  obtain ⟨hLE, hpp, ⟨⟨hK, hX⟩, hcc⟩, hM, hMe⟩ := hR
  replace hcc : zCc ph R C rk := hcc
  have hpq := hpp
  obtain ⟨zq, zF, zk, zch, ⟨zO, z40⟩, zw, zs⟩ := hpq
  have hS := zSh_of hP hX.2.2.2.2
  have hF2 : F2 = 11 ∨ F2 = 16 := by omega
  obtain ⟨hp9, cm9, hb9⟩ := zFx_of hP hS hF2
  obtain ⟨f1, -, -, z9, y9, Cs, ho, e3, W1⟩ := zc_rule hS hF2 hT hX.2.2.1 hX.2.1 hp9 hb9 600 _ a1
  have eF : ∀ a k, ¬ (F2 + 1 ≤ a ∧ a ≤ F2 + 3) → ¬ (a = F2 ∧ (k = 1 ∨ k = 3 ∨ k = 5 ∨ k = 6 ∨ k = 7)) → ¬ (a = 1 ∧ k = 1) → ¬ (a = 10 ∧ (k = 1 ∨ k = 2)) → zc p1 a k = zc ph a k := fun a k h1 h2 h3 h4 => f1.1 a k (by simp <;> omega) (by simp <;> omega)
  have eM : zEQ tM ph p1 := fun a k t => eF a k (by omega) (by omega) (by omega) (by omega)
  have eT : zEQ tT ph p1 := fun a k t => eF a k (by omega) (by omega) (by omega) (by omega)
  have h4 : zs44 p1 := fun a k b e hb => (eF a k (by omega) (by omega) (by omega) (by omega)).trans (hX.2.2.2.2 a k b e hb)
  have hS1 := zSh_of b1 h4
  have hM1 := zKM_Q eM hM
  have hMe1 := zMe_Q eM hMe
  have h14a := (eT 170 14 (by decide)).trans h14
  have h176a : ∀ i, i < ln → zc p1 176 i = some (.int (zn (t i))) ∧ t i < 256 := fun i hi => ⟨(eT 176 i (Or.inr rfl)).trans (h176 i hi).1, (h176 i hi).2⟩
  obtain ⟨v2, p2, a2, r, rfl, b2, c2, i2, y2, z2⟩ := xcr_rule n (by omega) p1 b1 c1.1 c1.2 hy1
  have t2 : xtie p2 := ⟨0, y2, z2, fun i hi => by
    have h0 : (0 : Int32).toInt = 0 := by decide
    omega⟩
  have hLE2 : xLE (n + 1) p2 := ⟨⟨c2, t2⟩, i2⟩
  obtain ⟨f2, -, -, ok, a9, cs2, z8, hru, hl40, e4, g4, W2⟩ := zm_rule hS1 h14a h80 h176a 600 _ a2
  have eG : ∀ a k, a ≠ 179 → a ≠ 180 → ¬ (a = 170 ∧ (k = 0 ∨ k = 14 ∨ k = 15 ∨ k = 16 ∨ k = 17 ∨ k = 23 ∨ k = 24)) → zc p2 a k = zc p1 a k := fun a k h1 h2 h3 => f2.1 a k (by simp <;> omega) (by simp <;> omega)
  have eA : ∀ a k, ¬ (F2 + 1 ≤ a ∧ a ≤ F2 + 3) → ¬ (a = F2 ∧ (k = 1 ∨ k = 3 ∨ k = 5 ∨ k = 6 ∨ k = 7)) → ¬ (a = 1 ∧ k = 1) → ¬ (a = 10 ∧ (k = 1 ∨ k = 2)) → a ≠ 179 → a ≠ 180 → ¬ (a = 170 ∧ (k = 0 ∨ k = 14 ∨ k = 15 ∨ k = 16 ∨ k = 17 ∨ k = 23 ∨ k = 24)) → zc p2 a k = zc ph a k := fun a k h1 h2 h3 h4 h5 h6 h7 => (eG a k h5 h6 h7).trans (eF a k h1 h2 h3 h4)
  have K2 := zKC_Q (q := p2) (fun a k t => eA a k (by omega) (by omega) (by omega) (by omega) (by omega) (by omega) (by omega)) (fun a k t => eA a k (by omega) (by omega) (by omega) (by omega) (by omega) (by omega) (by omega)) (fun a k t => eA a k (by omega) (by omega) (by omega) (by omega) (by omega) (by omega) (by omega)) hK
  have d2 := zCc_Q (q := p2) (fun a k t => eA a k (by omega) (by omega) (by omega) (by omega) (by omega) (by omega) (by omega)) hcc
  have hi2 := zCi_Q (q := p2) (fun a k t => eA a k (by omega) (by omega) (by omega) (by omega) (by omega) (by omega) (by omega)) hX.1.2.1
  have hB2 : zBd p2 := ⟨(eA 156 2 (by omega) (by omega) (by omega) (by omega) (by omega) (by omega) (by omega)).trans hX.2.2.2.1.1, (eA 156 3 (by omega) (by omega) (by omega) (by omega) (by omega) (by omega) (by omega)).trans hX.2.2.2.1.2⟩
  have h42 : zs44 p2 := fun a k b e hb => (eG a k (by omega) (by omega) (by omega)).trans (h4 a k b e hb)
  have hS2 := zSh_of b2 h42
  have hMl2 : zMl p2 R C rk := ⟨(eG 170 3 (by omega) (by omega) (by omega)).trans hM1.1.1, (eG 170 4 (by omega) (by omega) (by omega)).trans hM1.1.2.1, fun f hf => (eG 172 f (by omega) (by omega) (by omega)).trans (hM1.1.2.2.1 f hf), hM1.1.2.2.2⟩
  have hM2 : zKM p2 R C rk P G v u w ch kp kc svm hn := ⟨hMl2, ⟨(eG 170 5 (by omega) (by omega) (by omega)).trans hM1.2.1.1, hM1.2.1.2.1, (eG 170 6 (by omega) (by omega) (by omega)).trans hM1.2.1.2.2.1, hM1.2.1.2.2.2⟩, zNr_Q (fun k _ _ => eG 174 k (by omega) (by omega) (by omega)) hM1.2.2.1, ⟨(eG 170 27 (by omega) (by omega) (by omega)).trans hM1.2.2.2.1.1, hM1.2.2.2.1.2.1, fun i hi => zNr_Q (fun k _ _ => eG 183 k (by omega) (by omega) (by omega)) (hM1.2.2.2.1.2.2 i hi)⟩, ⟨(eG 170 7 (by omega) (by omega) (by omega)).trans hM1.2.2.2.2.1.1, hM1.2.2.2.2.1.2.1, fun i hi => by
    obtain ⟨h1, h2, h3, h5⟩ := hM1.2.2.2.2.1.2.2 i hi
    exact ⟨(eG 198 i (by omega) (by omega) (by omega)).trans h1, (eG 199 i (by omega) (by omega) (by omega)).trans h2, h3, fun e => zNr_Q (fun k _ _ => eG 200 k (by omega) (by omega) (by omega)) (h5 e)⟩⟩, (eG 170 39 (by omega) (by omega) (by omega)).trans hM1.2.2.2.2.2.1, hM1.2.2.2.2.2.2⟩
  have hsk : (zc p2 170 8 = some (.int (zn sn))) ∧ ∀ i, i < sn → zc p2 173 i = some (.int (zn (sk i))) ∧ sk i ≤ 9 := ⟨(eG 170 8 (by omega) (by omega) (by omega)).trans hMe1.2.1.1, fun i hi => ⟨(eG 173 i (by omega) (by omega) (by omega)).trans (hMe1.2.1.2.2.2.1 i hi).1, (hMe1.2.1.2.2.2.1 i hi).2⟩⟩
  rcases zrule_join hru ho with ⟨j1, j2, j3, j4⟩ | ⟨j1, -, j2⟩
  · subst j3
    obtain ⟨k1, k2, k3, k5, k6⟩ := zrule_cds hru hl40 j4
    rcases W1 with ⟨g1, g3, g5, g6, g7⟩ | ⟨g1, -⟩
    · rcases W2 with ⟨g8, g9, g10⟩ | ⟨g8, -⟩
      · have hf2 : zFm p2 F2 Cs.length (fun i => Cs.reverse.getD i 0) := by
          have q1 := (eG F2 1 (by omega) (by omega) (by omega)).trans g5.1
          have q2 : ∀ i, i < Cs.length → zc p2 (F2 + 1) i = some (.int (zcc (Cs.reverse.getD i 0))) := fun i hi => (eG (F2 + 1) i (by omega) (by omega) (by omega)).trans (zFc_m g5 i hi)
          rcases hF2 with e | e
          · subst e
            exact ⟨zsg hS2 zs_11_0, zsg hS2 zs_11_8, q1, k2, k3, q2, k1⟩
          · subst e
            exact ⟨zsg hS2 zs_16_0, zsg hS2 zs_16_8, q1, k2, k3, q2, k1⟩
        have hpn : zPP (n + 1) ((R, C, rk, sn, sk), (Cs.length, (fun i => Cs.reverse.getD i 0), cs2.length, (fun i => cs2.reverse.getD i 0)), (F2, F, P, G, nx, u, fl, hn, ch), (v, w, sv, svm), (kp, kc)) := by
          obtain ⟨-, -, l3, l4, l5, l6, l7⟩ := zPP_le hpp
          exact ⟨k6, by omega, l3, l4, l5, l6, l7⟩
        have hr2 : zMr p2 sn sk cs2.length (fun i => cs2.reverse.getD i 0) := ⟨hsk.1, hMe1.2.1.2.1, hMe1.2.1.2.2.1, hsk.2, g9, hl40, g10⟩
        have ev : y9.toInt = r.toInt := by
          have e5 : r = z8 := Value.int.inj (Option.some.inj e4)
          rw [e5]
          omega
        exact ⟨v1, .int r, p1, p2, ⟨xat0 hP, xat170 b1⟩, a1, a2, ⟨q1, (Option.some.inj e3).trans (congrArg Value.int (Int32.toInt_inj.mp ev))⟩, b2, ((R, C, rk, sn, sk), (Cs.length, (fun i => Cs.reverse.getD i 0), cs2.length, (fun i => cs2.reverse.getD i 0)), (F2, F, P, G, nx, u, fl, hn, ch), (v, w, sv, svm), (kp, kc)), hLE2, hpn, ⟨⟨K2, ⟨K2.1, hi2, hf2, hF2⟩, (eG 10 1 (by omega) (by omega) (by omega)).trans g6, (eG 10 2 (by omega) (by omega) (by omega)).trans g7, hB2, h42⟩, d2⟩, hM2, hMl2, hr2, k5⟩
      · omega
    · omega
  · rcases W1 with ⟨g1, -⟩ | ⟨g1, g3, g6, g7⟩
    · omega
    · rcases W2 with ⟨g8, -⟩ | ⟨g8, g9, g10⟩
      · omega
      · have hf2 : zFm p2 F cn cd := by
          have q1 := (eA F 1 (by omega) (by omega) (by omega) (by omega) (by omega) (by omega) (by omega)).trans hX.1.2.2.1.2.2.1
          have q2 : ∀ i, i < cn → zc p2 (F + 1) i = some (.int (zcc (cd i))) := fun i hi => (eA (F + 1) i (by omega) (by omega) (by omega) (by omega) (by omega) (by omega) (by omega)).trans (hX.1.2.2.1.2.2.2.2.2.1 i hi)
          rcases hX.1.2.2.2 with e | e
          · subst e
            exact ⟨zsg hS2 zs_11_0, zsg hS2 zs_11_8, q1, hX.1.2.2.1.2.2.2.1, hX.1.2.2.1.2.2.2.2.1, q2, hX.1.2.2.1.2.2.2.2.2.2⟩
          · subst e
            exact ⟨zsg hS2 zs_16_0, zsg hS2 zs_16_8, q1, hX.1.2.2.1.2.2.2.1, hX.1.2.2.1.2.2.2.2.1, q2, hX.1.2.2.1.2.2.2.2.2.2⟩
        have hr2 : zMr p2 sn sk cm cdm := ⟨hsk.1, hMe1.2.1.2.1, hMe1.2.1.2.2.1, hsk.2, g9.trans hMe1.2.1.2.2.2.2.1, hMe1.2.1.2.2.2.2.2.1, fun i hi => ⟨(g10 i).trans (hMe1.2.1.2.2.2.2.2.2 i hi).1, (hMe1.2.1.2.2.2.2.2.2 i hi).2⟩⟩
        have ev : y9.toInt = r.toInt := by
          have e5 : r = z8 := Value.int.inj (Option.some.inj e4)
          rw [e5]
          omega
        exact ⟨v1, .int r, p1, p2, ⟨xat0 hP, xat170 b1⟩, a1, a2, ⟨q1, (Option.some.inj e3).trans (congrArg Value.int (Int32.toInt_inj.mp ev))⟩, b2, ((R, C, rk, sn, sk), (cn, cd, cm, cdm), (F, F2, P, G, nx, u, fl, hn, ch), (v, w, sv, svm), (kp, kc)), hLE2, zPP_le hpp, ⟨⟨K2, ⟨K2.1, hi2, hf2, hX.1.2.2.2⟩, (eG 10 1 (by omega) (by omega) (by omega)).trans g6, (eG 10 2 (by omega) (by omega) (by omega)).trans g7, hB2, h42⟩, d2⟩, hM2, hMl2, hr2, hMe1.2.2⟩
