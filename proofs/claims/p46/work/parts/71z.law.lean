/-! another RULE tried; the start; printed by wip/rel/r5.py -/
theorem xVI_G55 (n : Nat) : xHE xX xgA_G55 xgF_G55 (xVI n) := xVI_G (by decide +kernel) (by decide +kernel) n
theorem xVY_s1 : zAY.all (fun i => xmemN xgA_G55 i) = true := by decide +kernel
theorem xVY_s2 : zFY.all (fun p => xmemP xgF_G55 p.1 p.2) = true := by decide +kernel
theorem xVY_v1 : zAY.all (fun i => xmemN xgA_G19 i) = true := by decide +kernel
theorem xVY_v2 : zFY.all (fun p => xmemP xgF_G19 p.1 p.2) = true := by decide +kernel
theorem xrs_lawE : xRs 173 290 [] (fun a b => kI a ∧ a = b) := fun n hn ph ⟨hP, z, hR⟩ => by
  have h8 : xHE xX xgA_G55 xgF_G55 (fun p => xVI n p ∧ xSame xX zAY zFY ph p) := xHE_and (xVI_G55 n) (xHE_sub xVY_s1 xVY_s2 xHE_slf)
  have h9 : xPC (fun p => xVI n p ∧ xSame xX zAY zFY ph p) := xPC_of (xHE_and (xVI_G19 n) (xHE_sub xVY_v1 xVY_v2 xHE_slf))
  obtain ⟨v0, p1, a1, b1, ⟨c1, s1⟩, q0, f0⟩ := xn_173_0 h8 h9 600 (by decide) (xLm n) (xLm_le (by omega)) xLm_0 [.ref 0] ph ⟨xaRi rfl (by decide), trivial⟩ (fun _ _ h => absurd h List.not_mem_nil) hP ⟨⟨hR.1.1.1, hR.1.2⟩, xSame_rf⟩
  obtain ⟨v1, rfl, q1⟩ := yri q0
  have hy1 := yz1_F _ _ f0
  have e1 := zEQ_Y hP b1 s1
  obtain ⟨ln, t, hT, h14, h80, h176⟩ := zTX_of hP hR.1.1.2
  obtain ⟨⟨R, C, rk, sn, sk⟩, ⟨cn, cd, cm, cdm⟩, ⟨F, F2, P, G, nx, u, fl, hn, ch⟩, ⟨v, w, sv, svm⟩, kp, kc⟩ := z
  obtain ⟨hLE, hpp, ⟨⟨hK, hX⟩, hcc⟩, hM, hMe⟩ := hR
  replace hcc : zCc ph R C rk := hcc
  have hpq := hpp
  obtain ⟨zq, zF, zk, zch, ⟨zO, z40⟩, zw, zs⟩ := hpq
  have hS := zSh_of hP hX.2.2.2.2
  have eM : zEQ tM ph p1 := zEQ_m (fun _ _ t => Or.inl t) e1
  have eT : zEQ tT ph p1 := zEQ_m (fun _ _ t => Or.inr (Or.inl t)) e1
  have h4 := zs44_Qq (zEQ_m (fun _ _ t => Or.inr (Or.inr t)) e1) hX.2.2.2.2
  have hS1 := zSh_of b1 h4
  have hM1 := zKM_Q eM hM
  have hMe1 := zMe_Q eM hMe
  have h14a := (eT 170 14 (by decide)).trans h14
  have h176a : ∀ i, i < ln → zc p1 176 i = some (.int (zn (t i))) ∧ t i < 256 := fun i hi => ⟨(eT 176 i (Or.inr rfl)).trans (h176 i hi).1, (h176 i hi).2⟩
  obtain ⟨v2, p2, a2, r, rfl, b2, c2, i2, y2, z2⟩ := xcr_law n (by omega) p1 b1 c1.1 c1.2 hy1
  have t2 : xtie p2 := ⟨0, y2, z2, fun i hi => by
    have h0 : (0 : Int32).toInt = 0 := by decide
    omega⟩
  have hLE2 : xLE (n + 1) p2 := ⟨⟨c2, t2⟩, i2⟩
  obtain ⟨f2, h23, h179, ok, a9, cs2, y8, hru, hl40, e4, W2⟩ := zm_law hS1 hMe1 hM1.2.1 hM1.2.2.1 zO h14a h80 h176a 600 _ a2
  have hF2 : F2 = 11 ∨ F2 = 16 := by omega
  obtain ⟨hp9, cm9, hb9⟩ := zFx_of hP hS hF2
  obtain ⟨f1, d1, z9, y9, Cs, ho, e3, W1⟩ := zc_law hS hX.1 ⟨⟨by decide, zSs_of hS (by decide)⟩, hK.2.1⟩ zO hX.2.1 hX.2.2.1 zF hcc hT hp9 hb9 (fun Cs hout => by
    rcases zrule_join hru hout with ⟨-, -, j3, j4⟩ | ⟨j1, -⟩
    · subst j3
      obtain ⟨k1, k2, k3, -⟩ := zrule_cds hru hl40 j4
      exact ⟨k1, k2, k3⟩
    · omega) 600 _ a1
  have eA : ∀ a k, ¬ (F2 + 1 ≤ a ∧ a ≤ F2 + 3) → ¬ (a = F2 ∧ (k = 1 ∨ k = 3 ∨ k = 5 ∨ k = 6 ∨ k = 7)) → ¬ (a = 1 ∧ k = 1) → ¬ (a = 5 ∧ k = 4) → ¬ (a = 3 ∧ k = 1) → ¬ (a = 4 ∨ a = 8 ∨ a = 9 ∨ a = 15 ∨ a = 20 ∨ a = 22 ∨ a = 23 ∨ a = 24) → a < 157 → zc p2 a k = zc ph a k := fun a k h1 h2 h3 h4 h5 h6 h7 => (f2.1 a k (by simp <;> omega) (by simp <;> omega)).trans (f1.1 a k (by simp <;> omega) (by simp <;> omega))
  have eG : ∀ a k, ¬ (a = 171 ∨ a = 179 ∨ a = 180 ∨ a = 181 ∨ a = 182 ∨ a = 197) → ¬ (a = 170 ∧ (k = 0 ∨ k = 1 ∨ k = 14 ∨ k = 15 ∨ k = 16 ∨ k = 17 ∨ k = 23 ∨ k = 24)) → zc p2 a k = zc p1 a k := fun a k h1 h2 => f2.1 a k (by simp <;> omega) (by simp <;> omega)
  have K2 := zKC_Q (q := p2) (fun a k t => eA a k (by omega) (by omega) (by omega) (by omega) (by omega) (by omega) (by omega)) (fun a k t => eA a k (by omega) (by omega) (by omega) (by omega) (by omega) (by omega) (by omega)) (fun a k t => eA a k (by omega) (by omega) (by omega) (by omega) (by omega) (by omega) (by omega)) hK
  have d2 := zCc_Q (q := p2) (fun a k t => eG a k (by omega) (by omega)) d1
  have hi2 := zCi_Q (q := p2) (fun a k t => eA a k (by omega) (by omega) (by omega) (by omega) (by omega) (by omega) (by omega)) hX.1.2.1
  have hB2 : zBd p2 := ⟨(eA 156 2 (by omega) (by omega) (by omega) (by omega) (by omega) (by omega) (by omega)).trans hX.2.2.2.1.1, (eA 156 3 (by omega) (by omega) (by omega) (by omega) (by omega) (by omega) (by omega)).trans hX.2.2.2.1.2⟩
  have h42 : zs44 p2 := fun a k b e hb => (eG a k (by omega) (by omega)).trans (h4 a k b e hb)
  have hS2 := zSh_of b2 h42
  have hMl2 : zMl p2 R C rk := ⟨(eG 170 3 (by omega) (by omega)).trans hM1.1.1, (eG 170 4 (by omega) (by omega)).trans hM1.1.2.1, fun f hf => (eG 172 f (by omega) (by omega)).trans (hM1.1.2.2.1 f hf), hM1.1.2.2.2⟩
  have hM2 : zKM p2 R C rk P G v u w ch kp kc svm hn := ⟨hMl2, ⟨(eG 170 5 (by omega) (by omega)).trans hM1.2.1.1, hM1.2.1.2.1, (eG 170 6 (by omega) (by omega)).trans hM1.2.1.2.2.1, hM1.2.1.2.2.2⟩, zNr_Q (fun k _ _ => eG 174 k (by omega) (by omega)) hM1.2.2.1, ⟨(eG 170 27 (by omega) (by omega)).trans hM1.2.2.2.1.1, hM1.2.2.2.1.2.1, fun i hi => zNr_Q (fun k _ _ => eG 183 k (by omega) (by omega)) (hM1.2.2.2.1.2.2 i hi)⟩, ⟨(eG 170 7 (by omega) (by omega)).trans hM1.2.2.2.2.1.1, hM1.2.2.2.2.1.2.1, fun i hi => by
    obtain ⟨h1, h2, h3, h5⟩ := hM1.2.2.2.2.1.2.2 i hi
    exact ⟨(eG 198 i (by omega) (by omega)).trans h1, (eG 199 i (by omega) (by omega)).trans h2, h3, fun e => zNr_Q (fun k _ _ => eG 200 k (by omega) (by omega)) (h5 e)⟩⟩, (eG 170 39 (by omega) (by omega)).trans hM1.2.2.2.2.2.1, hM1.2.2.2.2.2.2⟩
  have hf2 : zFm p2 F cn cd := by
    have q1 := (eA F 1 (by omega) (by omega) (by omega) (by omega) (by omega) (by omega) (by omega)).trans hX.1.2.2.1.2.2.1
    have q2 : ∀ i, i < cn → zc p2 (F + 1) i = some (.int (zcc (cd i))) := fun i hi => (eA (F + 1) i (by omega) (by omega) (by omega) (by omega) (by omega) (by omega) (by omega)).trans (hX.1.2.2.1.2.2.2.2.2.1 i hi)
    rcases hX.1.2.2.2 with e | e
    · subst e
      exact ⟨zsg hS2 zs_11_0, zsg hS2 zs_11_8, q1, hX.1.2.2.1.2.2.2.1, hX.1.2.2.1.2.2.2.2.1, q2, hX.1.2.2.1.2.2.2.2.2.2⟩
    · subst e
      exact ⟨zsg hS2 zs_16_0, zsg hS2 zs_16_8, q1, hX.1.2.2.1.2.2.2.1, hX.1.2.2.1.2.2.2.2.1, q2, hX.1.2.2.1.2.2.2.2.2.2⟩
  have hr2 : zMr p2 sn sk cm cdm := ⟨(eG 170 8 (by omega) (by omega)).trans hMe1.2.1.1, hMe1.2.1.2.1, hMe1.2.1.2.2.1, fun i hi => ⟨(eG 173 i (by omega) (by omega)).trans (hMe1.2.1.2.2.2.1 i hi).1, (hMe1.2.1.2.2.2.1 i hi).2⟩, h23, hMe1.2.1.2.2.2.2.2.1, fun i hi => ⟨h179 i hi, (hMe1.2.1.2.2.2.2.2.2 i hi).2⟩⟩
  have ev : y9 = r := by
    have e5 : r = y8 := Value.int.inj (Option.some.inj e4)
    rw [e5]
    rcases zrule_join hru ho with ⟨j1, j2, j3, j4⟩ | ⟨j1, -, j2⟩
    · subst j3
      obtain ⟨-, -, -, -, k6⟩ := zrule_cds hru hl40 j4
      rcases W1 with ⟨g1, -⟩ | ⟨-, g1⟩
      · omega
      · rcases W2 with ⟨g2, -⟩ | ⟨-, g2⟩
        · omega
        · have e6 : zAll (R, C, rk, sn, sk, Cs.length, zCd Cs) = zAll (R, C, rk, sn, sk, cs2.length, zCd cs2) := zQ_All k6
          rw [g1, g2, e6, zQ_All zq]
    · rcases W1 with ⟨-, g1⟩ | ⟨g1, -⟩
      · rcases W2 with ⟨-, g2⟩ | ⟨g2, -⟩
        · exact Int32.toInt_inj.mp (by omega)
        · omega
      · omega
  exact ⟨v1, .int r, p1, p2, ⟨xat0 hP, xat170 b1⟩, a1, a2, ⟨q1, (Option.some.inj e3).trans (congrArg Value.int ev)⟩, b2, ((R, C, rk, sn, sk), (cn, cd, cm, cdm), (F, F2, P, G, nx, u, fl, hn, ch), (v, w, sv, svm), (kp, kc)), hLE2, zPP_le hpp, ⟨⟨K2, ⟨K2.1, hi2, hf2, hX.1.2.2.2⟩, (eA 10 1 (by omega) (by omega) (by omega) (by omega) (by omega) (by omega) (by omega)).trans hX.2.1, (eA 10 2 (by omega) (by omega) (by omega) (by omega) (by omega) (by omega) (by omega)).trans hX.2.2.1, hB2, h42⟩, d2⟩, hM2, hMl2, hr2, hMe1.2.2⟩
theorem xrs_sheet {x y z w : Int32} : xRs 131 237 [.int x, .int y, .int z, .int w] (fun a b => kI a ∧ kI b) := fun n hn ph hI => by
  obtain ⟨v1, v2, p1, p2, a, b, c, ⟨⟨r, rfl⟩, rfl⟩, e⟩ := xrs_sheetE (x := x) (y := y) (z := z) (w := w) n hn ph hI
  exact ⟨_, _, p1, p2, a, b, c, ⟨⟨r, rfl⟩, r, rfl⟩, e⟩
theorem xrs_hours {x : Int32} : xRs 133 248 [.int x] (fun a b => kI a ∧ kI b) := fun n hn ph hI => by
  obtain ⟨v1, v2, p1, p2, a, b, c, ⟨⟨r, rfl⟩, rfl⟩, e⟩ := xrs_hoursE (x := x) n hn ph hI
  exact ⟨_, _, p1, p2, a, b, c, ⟨⟨r, rfl⟩, r, rfl⟩, e⟩
theorem xrs_faces {x y : Int32} : xRs 134 249 [.int x, .int y] (fun a b => kI a ∧ kI b) := fun n hn ph hI => by
  obtain ⟨v1, v2, p1, p2, a, b, c, ⟨⟨r, rfl⟩, rfl⟩, e⟩ := xrs_facesE (x := x) (y := y) n hn ph hI
  exact ⟨_, _, p1, p2, a, b, c, ⟨⟨r, rfl⟩, r, rfl⟩, e⟩
theorem xrs_steps {x y : Int32} : xRs 135 250 [.int x, .int y] (fun a b => kI a ∧ kI b) := fun n hn ph hI => by
  obtain ⟨v1, v2, p1, p2, a, b, c, ⟨⟨r, rfl⟩, rfl⟩, e⟩ := xrs_stepsE (x := x) (y := y) n hn ph hI
  exact ⟨_, _, p1, p2, a, b, c, ⟨⟨r, rfl⟩, r, rfl⟩, e⟩
theorem xrs_trims {x y : Int32} : xRs 136 251 [.int x, .int y] (fun a b => kI a ∧ kI b) := fun n hn ph hI => by
  obtain ⟨v1, v2, p1, p2, a, b, c, ⟨⟨r, rfl⟩, rfl⟩, e⟩ := xrs_trimsE (x := x) (y := y) n hn ph hI
  exact ⟨_, _, p1, p2, a, b, c, ⟨⟨r, rfl⟩, r, rfl⟩, e⟩
theorem xrs_puts {x y : Int32} : xRs 137 252 [.int x, .int y] (fun a b => kI a ∧ kI b) := fun n hn ph hI => by
  obtain ⟨v1, v2, p1, p2, a, b, c, ⟨⟨r, rfl⟩, rfl⟩, e⟩ := xrs_putsE (x := x) (y := y) n hn ph hI
  exact ⟨_, _, p1, p2, a, b, c, ⟨⟨r, rfl⟩, r, rfl⟩, e⟩
theorem xrs_undo : xRs 139 241 [] (fun a b => kI a ∧ kI b) := fun n hn ph hI => by
  obtain ⟨v1, v2, p1, p2, a, b, c, ⟨⟨r, rfl⟩, rfl⟩, e⟩ := xrs_undoE n hn ph hI
  exact ⟨_, _, p1, p2, a, b, c, ⟨⟨r, rfl⟩, r, rfl⟩, e⟩
theorem xrs_heard {x y : Int32} : xRs 166 283 [.int x, .int y] (fun a b => kI a ∧ kI b) := fun n hn ph hI => by
  obtain ⟨v1, v2, p1, p2, a, b, c, ⟨⟨r, rfl⟩, rfl⟩, e⟩ := xrs_heardE (x := x) (y := y) n hn ph hI
  exact ⟨_, _, p1, p2, a, b, c, ⟨⟨r, rfl⟩, r, rfl⟩, e⟩
theorem xrs_forget : xRs 167 284 [] (fun a b => kI a ∧ kI b) := fun n hn ph hI => by
  obtain ⟨v1, v2, p1, p2, a, b, c, ⟨⟨r, rfl⟩, rfl⟩, e⟩ := xrs_forgetE n hn ph hI
  exact ⟨_, _, p1, p2, a, b, c, ⟨⟨r, rfl⟩, r, rfl⟩, e⟩
theorem xrs_keep {x : Int32} : xRs 177 296 [.int x] (fun a b => kI a ∧ kI b) := fun n hn ph hI => by
  obtain ⟨v1, v2, p1, p2, a, b, c, ⟨⟨r, rfl⟩, rfl⟩, e⟩ := xrs_keepE (x := x) n hn ph hI
  exact ⟨_, _, p1, p2, a, b, c, ⟨⟨r, rfl⟩, r, rfl⟩, e⟩
theorem xrs_people : xRs 125 208 [] (fun a b => kI a ∧ kI b) := fun n hn ph hI => by
  obtain ⟨v1, v2, p1, p2, a, b, c, ⟨⟨r, rfl⟩, rfl⟩, e⟩ := xrs_peopleE n hn ph hI
  exact ⟨_, _, p1, p2, a, b, c, ⟨⟨r, rfl⟩, r, rfl⟩, e⟩
theorem xrs_things : xRs 126 209 [] (fun a b => kI a ∧ kI b) := fun n hn ph hI => by
  obtain ⟨v1, v2, p1, p2, a, b, c, ⟨⟨r, rfl⟩, rfl⟩, e⟩ := xrs_thingsE n hn ph hI
  exact ⟨_, _, p1, p2, a, b, c, ⟨⟨r, rfl⟩, r, rfl⟩, e⟩
theorem xrs_day : xRs 138 255 [] (fun a b => kI a ∧ kI b) := fun n hn ph hI => by
  obtain ⟨v1, v2, p1, p2, a, b, c, ⟨⟨r, rfl⟩, rfl⟩, e⟩ := xrs_dayE n hn ph hI
  exact ⟨_, _, p1, p2, a, b, c, ⟨⟨r, rfl⟩, r, rfl⟩, e⟩
theorem xrs_valley : xRs 124 202 [] (fun a b => kI a ∧ kI b) := fun n hn ph hI => by
  obtain ⟨v1, v2, p1, p2, a, b, c, ⟨⟨r, rfl⟩, rfl⟩, e⟩ := xrs_valleyE n hn ph hI
  exact ⟨_, _, p1, p2, a, b, c, ⟨⟨r, rfl⟩, r, rfl⟩, e⟩
theorem xrs_light : xRs 127 210 [] (fun a b => kI a ∧ kI b) := fun n hn ph hI => by
  obtain ⟨v1, v2, p1, p2, a, b, c, ⟨⟨r, rfl⟩, rfl⟩, e⟩ := xrs_lightE n hn ph hI
  exact ⟨_, _, p1, p2, a, b, c, ⟨⟨r, rfl⟩, r, rfl⟩, e⟩
theorem xrs_rule : xRs 128 217 [] (fun a b => kI a ∧ kI b) := fun n hn ph hI => by
  obtain ⟨v1, v2, p1, p2, a, b, c, ⟨⟨r, rfl⟩, rfl⟩, e⟩ := xrs_ruleE n hn ph hI
  exact ⟨_, _, p1, p2, a, b, c, ⟨⟨r, rfl⟩, r, rfl⟩, e⟩
theorem xrs_law : xRs 173 290 [] (fun a b => kI a ∧ kI b) := fun n hn ph hI => by
  obtain ⟨v1, v2, p1, p2, a, b, c, ⟨⟨r, rfl⟩, rfl⟩, e⟩ := xrs_lawE n hn ph hI
  exact ⟨_, _, p1, p2, a, b, c, ⟨⟨r, rfl⟩, r, rfl⟩, e⟩
theorem xrs_sign {x : Int32} : xRs 122 193 [.int x] (fun a b => kI a ∧ kI b) := fun n hn ph hI => by
  obtain ⟨v1, v2, p1, p2, a, b, c, ⟨⟨r, rfl⟩, rfl⟩, e⟩ := xrs_signE (x := x) n hn ph hI
  exact ⟨_, _, p1, p2, a, b, c, ⟨⟨r, rfl⟩, r, rfl⟩, e⟩
theorem xrs_end {x : Int32} : xRs 123 194 [.int x] (fun a b => kI a ∧ kI b) := fun n hn ph hI => by
  obtain ⟨v1, v2, p1, p2, a, b, c, ⟨⟨r, rfl⟩, rfl⟩, e⟩ := xrs_endE (x := x) n hn ph hI
  exact ⟨_, _, p1, p2, a, b, c, ⟨⟨r, rfl⟩, r, rfl⟩, e⟩
/-! the start -/
def zz0 : zPar := ((3, 3, fun _ => false, 1, fun _ => 9), (3, zCd [2004, 1000, 1001], 0, fun _ => 0), (11, 16, 0, 0, 0, 0, 0, 0, 0), (fun _ => 0, fun _ _ => 0, fun _ _ => 0, fun _ _ => 0), (fun _ => false, fun _ => 0))
def zvI (o : Option Value) (x : Int32) : Bool := match o with
  | some (.int y) => decide (y = x)
  | _ => false
theorem zvI_e {o : Option Value} {x : Int32} (h : zvI o x = true) : o = some (.int x) := by
  unfold zvI at h
  split at h
  · rw [of_decide_eq_true h]
  · cases h
def zvR (o : Option Value) (x : Nat) : Bool := match o with
  | some (.ref y) => Nat.beq y x
  | _ => false
theorem zvR_e {o : Option Value} {x : Nat} (h : zvR o x = true) : o = some (.ref x) := by
  unfold zvR at h
  split at h
  · rw [Nat.eq_of_beq_eq_true h]
  · cases h
theorem zvA {n : Nat} {A : Nat} {f : Nat → Int32} (h : (List.range n).all (fun i => zvI (zc kH0 A i) (f i)) = true) : ∀ i, i < n → zc kH0 A i = some (.int (f i)) := fun i hi => zvI_e (List.all_eq_true.mp h i (List.mem_range.mpr hi))
theorem zst44 : zs44 kH0 := fun a k b _ hb => zvR_e (List.all_eq_true.mp (by decide +kernel : zstatL.all (fun e => zvR (zc kH0 e.1 e.2.1) e.2.2) = true) _ (zlk_mem hb))
theorem zst_CR : zCR kH0 zz0 := by
  have hS : zSh kH0 := zSh_of (m := 0) (w := 0) (xst0 (by decide)) zst44
  have hL : zCl kH0 3 3 (fun _ => false) := ⟨zvI_e (by decide +kernel), zvI_e (by decide +kernel), zvI_e (by decide +kernel), rfl, fun f hf => ⟨zvA (n := 9) (A := 6) (f := fun f => zn (f / 3)) (by decide +kernel) f hf, zvA (n := 9) (A := 7) (f := fun f => zn (f % 3)) (by decide +kernel) f hf⟩, by decide, by decide, by decide, by decide⟩
  refine ⟨⟨hL, ⟨zvI_e (by decide +kernel), by decide, zvI_e (by decide +kernel), by decide, zvI_e (by decide +kernel), fun i hi => absurd hi (Nat.not_lt_zero i), fun i hi => absurd hi (Nat.not_lt_zero i)⟩, ⟨zvI_e (by decide +kernel), by decide, zvI_e (by decide +kernel), by decide, fun i hi => absurd hi (Nat.not_lt_zero i)⟩, ⟨zvI_e (by decide +kernel), by decide, fun i hi e => by rw [Nat.zero_testBit] at e; cases e⟩, zvI_e (by decide +kernel), by decide⟩, ⟨hL, ⟨zvI_e (by decide +kernel), by decide, by decide, fun i hi => ⟨zvA (n := 1) (f := fun _ => zn 9) (by decide +kernel) i hi, Nat.le_refl 9⟩⟩, ⟨zsg hS zs_11_0, zsg hS zs_11_8, zvI_e (by decide +kernel), by decide, by decide, zvA (n := 3) (A := 12) (f := fun i => zcc (zCd [2004, 1000, 1001] i)) (by decide +kernel), zcg_0⟩, Or.inl rfl⟩, zvR_e (by decide +kernel), zvR_e (by decide +kernel), ⟨zvI_e (by decide +kernel), zvI_e (by decide +kernel)⟩, zst44⟩
theorem zst_MR : zMR kH0 zz0 := by
  have hL : zMl kH0 3 3 (fun _ => false) := ⟨zvI_e (by decide +kernel), zvI_e (by decide +kernel), fun f hf => zvA (n := 9) (f := fun _ => zI false) (by decide +kernel) f hf, by decide, by decide, by decide, by decide⟩
  refine ⟨⟨hL, ⟨zvI_e (by decide +kernel), by decide, zvI_e (by decide +kernel), by decide⟩, fun i hi => ?_, ⟨zvI_e (by decide +kernel), by decide, fun i hi => absurd hi (Nat.not_lt_zero i)⟩, ⟨zvI_e (by decide +kernel), by decide, fun i hi => ⟨zvA (n := 3) (f := fun _ => zI false) (by decide +kernel) i hi, zvA (n := 3) (f := fun _ => zn 0) (by decide +kernel) i hi, Nat.le_refl 0, fun e => by cases e⟩⟩, zvI_e (by decide +kernel), by decide⟩, hL, ⟨zvI_e (by decide +kernel), by decide, by decide, fun i hi => ⟨zvA (n := 1) (f := fun _ => zn 9) (by decide +kernel) i hi, Nat.le_refl 9⟩, zvI_e (by decide +kernel), by decide, fun i hi => absurd hi (Nat.not_lt_zero i)⟩, fun h => absurd h (by decide), fun k hk => absurd hk (Nat.not_lt_zero k)⟩
  rw [Nat.zero_add]
  exact zvA (n := 41) (f := fun _ => zn 0) (by decide +kernel) i hi
theorem xRI_0 (h : xLI 0 kH0) : xRI 0 kH0 := by
  refine ⟨h.1, zz0, h.2, ?_, ⟨zst_CR, zCc_0 rfl⟩, zst_MR⟩
  refine ⟨Or.inr ⟨rfl, rfl, rfl, rfl, rfl⟩, Or.inl ⟨rfl, rfl⟩, fun i hi => ⟨Nat.zero_testBit i, fun _ => rfl⟩, Nat.le_refl 0, ⟨⟨fun p hp => absurd hp (Nat.not_lt_zero p), fun t ht => absurd ht (Nat.not_lt_zero t), by decide⟩, Nat.le_refl 0⟩, fun i hi => absurd hi (Nat.not_lt_zero i), fun i hi e => by rw [Nat.zero_testBit] at e; cases e⟩
theorem xRI_le {n : Nat} {ph : pm_H} (h : xRI n ph) : xRI (n + 1) ph := by
  obtain ⟨h1, z, h2, h3, h4⟩ := h
  exact ⟨xshift h1 (by decide), z, xLE_le h2, zPP_le h3, h4⟩
theorem zP_201 {a k : Nat} (t : tPP a k) : a ≠ 201 := by
  have := (zbP a k t).1
  omega
theorem xRE_q {n : Nat} {z : zPar} {p q : pm_H} {m : Int} {w0 : Nat} (hq : xH xX kK m w0 q) (hE : xLE n q) (h : zEQ tPP p q) (g : xRE n z p) : xRE n z q := by
  have hR : zEQ tRR p q := zEQ_m (fun a k t => by
    rcases t with t | t | t | t | t | t
    · exact Or.inl t
    · exact Or.inr (Or.inl t)
    · exact Or.inr (Or.inr (Or.inl t))
    · exact Or.inr (Or.inr (Or.inr (Or.inl t)))
    · exact Or.inr (Or.inr (Or.inr (Or.inr (Or.inl t))))
    · exact Or.inr (Or.inr (Or.inr (Or.inr (Or.inr (Or.inl t)))))) h
  exact ⟨hE, g.2.1, ⟨zCR_Q hq hR g.2.2.1.1, zCc_Q (zEQ_m (fun a k t => Or.inr (Or.inr (Or.inr (Or.inr (Or.inr (Or.inr t)))))) h) g.2.2.1.2⟩, zMR_Q (zEQ_m (fun _ _ t => zRM t) hR) g.2.2.2⟩
/-- the frame of person, thing, row -/
def xEq (n : Nat) (z : zPar) (ph p : pm_H) : Prop := (xLE n p ∧ xSame xX zAR zFR ph p) ∧ zqC p z.1.1 z.1.2.1 z.1.2.2.1
theorem xEq_G {n : Nat} {z : zPar} {ph : pm_H} : xHE xX xgA_G8 xgF_G8 (xEq n z ph) := xHE_and (xHE_and (xLE_G8 n) (xHE_sub (by decide +kernel) (by decide +kernel) xHE_slf)) (zqC_G (by decide +kernel) (by decide +kernel) (by decide +kernel))
theorem xEq_C {n : Nat} {z : zPar} {ph : pm_H} {m : Int} {w0 : Nat} (hP : xH xX kK m w0 ph) (hR : xRE n z ph) : xPC (xEq n z ph) := xPC_F (xLE_G19 n) hP zvR1 zvR2 zbR zckR (fun _ _ t => Or.inl t) (fun _ _ t => Or.inr (Or.inr (Or.inr (Or.inr (Or.inl t))))) (zCR_4 hR.2.2.1.1) (zCR_l hR.2.2.1.1)
theorem xEq_0 {n : Nat} {z : zPar} {ph : pm_H} {m : Int} {w0 : Nat} (hP : xH xX kK m w0 ph) (hR : xRE n z ph) : xEq n z ph ph := ⟨⟨hR.1, xSame_rf⟩, zqC_x hP hR.2.2.1.2⟩
theorem xEq_R {n : Nat} {z : zPar} {ph p : pm_H} {m m' : Int} {w0 w1 : Nat} (hP : xH xX kK m w0 ph) (hp : xH xX kK m' w1 p) (hR : xRE n z ph) (h : xEq n z ph p) : xRE n z p := by
  have hq := zEQ_R hP hp h.1.2
  exact ⟨h.1.1, hR.2.1, ⟨zCR_Q hp hq hR.2.2.1.1, zqC_c h.2⟩, zMR_Q (zEQ_m (fun _ _ t => zRM t) hq) hR.2.2.2⟩
