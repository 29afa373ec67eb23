/-! the calls that change the relation; printed by wip/rel/r3.py -/
section RW
variable {R C sn cn cm F F2 P G nx u fl hn ch : Nat} {rk kp : Nat → Bool} {sk cd cdm v kc : Nat → Nat} {w sv svm : Nat → Nat → Nat}
/-- an end of both calls -/
theorem xRI_fin {n : Nat} {p1 p2 : pm_H} {m : Int} {w0 : Nat} (hP : xH xX kK (xLm (n + 1)) 0 p2) (b1 : xH xX kK m w0 p1) (hLE : xLE (n + 1) p2) (hpp : zPP (n + 1) ((R, C, rk, sn, sk), (cn, cd, cm, cdm), (F, F2, P, G, nx, u, fl, hn, ch), (v, w, sv, svm), (kp, kc))) (e2 : zEQ tCC p1 p2) (hK : zKC p1 R C rk P G v nx u w fl sv hn) (hX : zXc p1 (R, C, rk, sn, sk, cn, cd) F F2) (hcc : zCc p1 R C rk) (hM : zKM p2 R C rk P G v u w ch kp kc svm hn) (hMr : zMr p1 sn sk cm cdm) (hcg : zcg cm cdm) : xRI (n + 1) p2 := by
  have eL : zEQ tL p1 p2 := zEQ_m (fun _ _ t => Or.inl t) e2
  have eN : zEQ tN p1 p2 := zEQ_m (fun _ _ t => Or.inr (Or.inl t)) e2
  have eH : zEQ tH p1 p2 := zEQ_m (fun _ _ t => Or.inr (Or.inr (Or.inl t))) e2
  have eI : zEQ tI p1 p2 := zEQ_m (fun _ _ t => Or.inr (Or.inr (Or.inr (Or.inl t)))) e2
  have eX : zEQ tX p1 p2 := zEQ_m (fun _ _ t => Or.inr (Or.inr (Or.inr (Or.inr (Or.inl t))))) e2
  have eD : zEQ tD p1 p2 := zEQ_m (fun _ _ t => Or.inr (Or.inr (Or.inr (Or.inr (Or.inr (Or.inl t)))))) e2
  have eE : zEQ tE p1 p2 := zEQ_m (fun _ _ t => Or.inr (Or.inr (Or.inr (Or.inr (Or.inr (Or.inr t)))))) e2
  refine ⟨hP, ((R, C, rk, sn, sk), (cn, cd, cm, cdm), (F, F2, P, G, nx, u, fl, hn, ch), (v, w, sv, svm), (kp, kc)), hLE, hpp, ⟨⟨zKC_Q eL eN eH hK, zXc_Q hP eL eI eX hX⟩, ?_⟩, hM, hM.1, zMr_Q eE hMr, hcg⟩
  show zCc p2 R C rk
  exact zCc_Q eD hcc
/-- rows of undo with one more -/
theorem zAW_all {Pd : (Nat → Nat) → Prop} (hv : Pd v) (hw : ∀ i, i < u → Pd (w i)) (hu : u ≤ 15) : ∀ i, i < zAd u → Pd (zAw u (zWp u w v) i) := by
  intro i hi
  unfold zAd at hi
  unfold zAw zWp
  by_cases h : u < 15
  · rw [if_pos h] at hi
    rw [if_pos h]
    by_cases e : i = u
    · show Pd (if i = u then v else w i)
      rw [if_pos e]
      exact hv
    · show Pd (if i = u then v else w i)
      rw [if_neg e]
      exact hw i (by omega)
  · rw [if_neg h] at hi
    rw [if_neg h]
    by_cases e : i + 1 = u
    · show Pd (if i + 1 = u then v else w (i + 1))
      rw [if_pos e]
      exact hv
    · show Pd (if i + 1 = u then v else w (i + 1))
      rw [if_neg e]
      exact hw (i + 1) (by omega)
theorem zPP_push {n nx' : Nat} {v' : Nat → Nat} (h : zPP n ((R, C, rk, sn, sk), (cn, cd, cm, cdm), (F, F2, P, G, nx, u, fl, hn, ch), (v, w, sv, svm), (kp, kc))) (hu : u ≤ 15) (hO : zOk R C P G v') (h40 : v' 40 ≤ 540 * (n + 1)) : zPP (n + 1) ((R, C, rk, sn, sk), (cn, cd, cm, cdm), (F, F2, P, G, nx', (zAd u), fl, hn, ch), (v', (zAw u (zWp u w v)), sv, svm), (kp, kc)) := by
  obtain ⟨h1, h2, h3, h4, h5, h6, h7⟩ := h
  exact ⟨h1, h2, h3, by omega, ⟨hO, h40⟩, zAW_all (Pd := fun r => zOk R C P G r ∧ r 40 ≤ 540 * (n + 1)) ⟨h5.1, by omega⟩ (fun i hi => ⟨(h6 i hi).1, by have := (h6 i hi).2; omega⟩) hu, fun i hi hb => ⟨(h7 i hi hb).1, by have := (h7 i hi hb).2; omega⟩⟩
/-- the row of now changed alone; fewer rows of undo -/
theorem zPP_set {n nx' u' : Nat} {v' : Nat → Nat} (h : zPP n ((R, C, rk, sn, sk), (cn, cd, cm, cdm), (F, F2, P, G, nx, u, fl, hn, ch), (v, w, sv, svm), (kp, kc))) (hu : u' ≤ u) (hO : zOk R C P G v') (h40 : v' 40 ≤ 540 * (n + 1)) : zPP (n + 1) ((R, C, rk, sn, sk), (cn, cd, cm, cdm), (F, F2, P, G, nx', u', fl, hn, ch), (v', w, sv, svm), (kp, kc)) := by
  obtain ⟨h1, h2, h3, h4, h5, h6, h7⟩ := h
  exact ⟨h1, h2, h3, by omega, ⟨hO, h40⟩, fun i hi => ⟨(h6 i (by omega)).1, by have := (h6 i (by omega)).2; omega⟩, fun i hi hb => ⟨(h7 i hi hb).1, by have := (h7 i hi hb).2; omega⟩⟩
theorem zPP_hn {n hn' : Nat} (h : zPP n ((R, C, rk, sn, sk), (cn, cd, cm, cdm), (F, F2, P, G, nx, u, fl, hn, ch), (v, w, sv, svm), (kp, kc))) : zPP (n + 1) ((R, C, rk, sn, sk), (cn, cd, cm, cdm), (F, F2, P, G, nx, u, fl, hn', ch), (v, w, sv, svm), (kp, kc)) := zPP_le h
end RW
theorem zn_int {x : Int32} {p : Nat} (h : x = zn p) (hp : p < 1000) : x.toInt = (p : Int) := by
  subst h
  exact znt (by omega)
theorem zn_two {x : Int32} {p q : Nat} (h : x = zn p) (h' : x = zn q) (hp : p < 1000) (hq : q < 1000) : p = q := by
  have e1 := zn_int h hp
  have e2 := zn_int h' hq
  omega
/-! the class's half of a call that writes -/
theorem zvW1 : zAW.all (fun i => xmemN xgA_G19 i) = true := by decide +kernel
theorem zvW2 : zFW.all (fun p => xmemP xgF_G19 p.1 p.2) = true := by decide +kernel
def xVI (n : Nat) (p : pm_H) : Prop := xV p ∧ xINV n p
theorem xVI_G {gA : List Nat} {gF : List (Nat × Nat)} (s1 : [9, 13, 28, 29, 30].all (fun i => xmemN gA i) = true) (s2 : ((0, 23) :: xgFI).all (fun p => xmemP gF p.1 p.2) = true) (n : Nat) : xHE xX gA gF (xVI n) := xHE_and (xHE_sub (by
  simp only [List.all_cons, List.all_nil, Bool.and_true, Bool.and_eq_true] at s1 ⊢
  exact s1.1) (by
  simp only [List.all_cons, Bool.and_eq_true] at s2
  simp only [List.all_cons, List.all_nil, Bool.and_true]
  exact s2.1) xHEV) (xHE_sub (by
  simp only [xgAI, List.all_cons, List.all_nil, Bool.and_true, Bool.and_eq_true] at s1 ⊢
  exact ⟨s1.2.1, s1.2.2.1, s1.2.2.2.1, s1.2.2.2.2⟩) (by
  simp only [List.all_cons, Bool.and_eq_true] at s2
  exact s2.2) (xHEI n))
def xRk (E0 : Nat → pm_H → Prop) (Z : pm_H → Prop) (j : Nat) (as : List Value) (Q : Value → Prop) : Prop := ∀ n, n ≤ 512 → ∀ z ph, xH xX kK (xLm n) 0 ph → E0 n ph → zCR ph z → zCC ph z → ∃ v ph', pm_Rd kK false 600 j (.ref 0 :: as) ph (some v, ph', 0, 0) ∧ Q v ∧ xH xX kK (xLm n) 0 ph' ∧ E0 n ph' ∧ zEQ tWW ph ph' ∧ zCC ph' z ∧ Z ph'
theorem xRwr {E0 : Nat → pm_H → Prop} {Z : pm_H → Prop} {d j : Nat} {gA : List Nat} {gF : List (Nat × Nat)} {pre : List xh} {res : Option xh} {fq : List (Nat × xh)} {as : List Value} {Q : Value → Prop} (hle : ∀ n, xHE xX gA gF (E0 n)) (hlv : ∀ n, xHE xX xgA_G19 xgF_G19 (E0 n)) (s1 : zAW.all (fun i => xmemN gA i) = true) (s2 : zFW.all (fun p => xmemP gF p.1 p.2) = true) (s3 : (xmemN gA 51 && xmemN gA 52 && xmemP gF 48 4) = true) (hm : ∀ {E : pm_H → Prop}, xHE xX gA gF E → xPC E → xcon xX kK E d j pre [] 0 res fq) (hd : d ≤ 600) (hv : ∀ m, xhV xX m (.ref 0 :: as) pre) (hr : ∀ m v, xhR xX m v res → ∃ u, v = some u ∧ Q u) (hz : ∀ m p, xhF xX m p fq → Z p) : xRk E0 Z j as Q := fun n hn z ph hP h0 hCR hCC => by
  obtain ⟨s34, s5⟩ := Bool.and_eq_true_iff.mp s3
  obtain ⟨s3, s4⟩ := Bool.and_eq_true_iff.mp s34
  have h4 := zCR_4 hCR
  obtain ⟨v0, ph', a, b, c, e, f⟩ := hm (E := fun p => (E0 n p ∧ xSame xX zAW zFW ph p) ∧ zqC p z.1.1 z.1.2.1 z.1.2.2.1) (xHE_and (xHE_and (hle n) (xHE_sub s1 s2 xHE_slf)) (zqC_G s3 s4 s5)) (xPC_F (hlv n) hP zvW1 zvW2 zbW zckW (fun _ _ t => Or.inl t) (fun _ _ t => Or.inr (Or.inr (Or.inl t))) h4 (zCR_l hCR)) 600 hd (xLm n) (xLm_le (by omega)) xLm_0 _ ph (hv _) (fun _ _ h => absurd h List.not_mem_nil) hP ⟨⟨h0, xSame_rf⟩, zqC_x hP hCC⟩
  obtain ⟨u, rfl, q⟩ := hr _ _ e
  exact ⟨u, ph', a, q, b, c.1.1, zEQ_W hP b c.1.2, zqC_c c.2, hz _ _ f⟩
theorem zRC_VR {p : pm_H} : xHE xX xgA_VR xgF_VR (fun q => xSame xX zAC zFC p q) := xHE_sub (by decide +kernel) (by decide +kernel) xHE_slf
theorem zRC_VS {p : pm_H} : xHE xX xgA_VR xgF_VS (fun q => xSame xX zAC zFC p q) := xHE_sub (by decide +kernel) (by decide +kernel) xHE_slf
theorem zRC_VU {p : pm_H} : xHE xX xgA_VT xgF_VU (fun q => xSame xX zAC zFC p q) := xHE_sub (by decide +kernel) (by decide +kernel) xHE_slf
theorem xVI_G19 (n : Nat) : xHE xX xgA_G19 xgF_G19 (xVI n) := xVI_G (by decide +kernel) (by decide +kernel) n
theorem zgw1_G13 : zAW.all (fun i => xmemN xgA_G13 i) = true := by decide +kernel
theorem zgw2_G13 : zFW.all (fun p => xmemP xgF_G13 p.1 p.2) = true := by decide +kernel
theorem zgw3_G13 : (xmemN xgA_G13 51 && xmemN xgA_G13 52 && xmemP xgF_G13 48 4) = true := by decide +kernel
theorem zgw1_G16 : zAW.all (fun i => xmemN xgA_G16 i) = true := by decide +kernel
theorem zgw2_G16 : zFW.all (fun p => xmemP xgF_G16 p.1 p.2) = true := by decide +kernel
theorem zgw3_G16 : (xmemN xgA_G16 51 && xmemN xgA_G16 52 && xmemP xgF_G16 48 4) = true := by decide +kernel
theorem zgw1_G17 : zAW.all (fun i => xmemN xgA_G17 i) = true := by decide +kernel
theorem zgw2_G17 : zFW.all (fun p => xmemP xgF_G17 p.1 p.2) = true := by decide +kernel
theorem zgw3_G17 : (xmemN xgA_G17 51 && xmemN xgA_G17 52 && xmemP xgF_G17 48 4) = true := by decide +kernel
theorem zgw1_G33 : zAW.all (fun i => xmemN xgA_G33 i) = true := by decide +kernel
theorem zgw2_G33 : zFW.all (fun p => xmemP xgF_G33 p.1 p.2) = true := by decide +kernel
theorem zgw3_G33 : (xmemN xgA_G33 51 && xmemN xgA_G33 52 && xmemP xgF_G33 48 4) = true := by decide +kernel
theorem zgw1_G35 : zAW.all (fun i => xmemN xgA_G35 i) = true := by decide +kernel
theorem zgw2_G35 : zFW.all (fun p => xmemP xgF_G35 p.1 p.2) = true := by decide +kernel
theorem zgw3_G35 : (xmemN xgA_G35 51 && xmemN xgA_G35 52 && xmemP xgF_G35 48 4) = true := by decide +kernel
theorem zgw1_G36 : zAW.all (fun i => xmemN xgA_G36 i) = true := by decide +kernel
theorem zgw2_G36 : zFW.all (fun p => xmemP xgF_G36 p.1 p.2) = true := by decide +kernel
theorem zgw3_G36 : (xmemN xgA_G36 51 && xmemN xgA_G36 52 && xmemP xgF_G36 48 4) = true := by decide +kernel
theorem zgw1_G39 : zAW.all (fun i => xmemN xgA_G39 i) = true := by decide +kernel
theorem zgw2_G39 : zFW.all (fun p => xmemP xgF_G39 p.1 p.2) = true := by decide +kernel
theorem zgw3_G39 : (xmemN xgA_G39 51 && xmemN xgA_G39 52 && xmemP xgF_G39 48 4) = true := by decide +kernel
theorem zgw1_G42 : zAW.all (fun i => xmemN xgA_G42 i) = true := by decide +kernel
theorem zgw2_G42 : zFW.all (fun p => xmemP xgF_G42 p.1 p.2) = true := by decide +kernel
theorem zgw3_G42 : (xmemN xgA_G42 51 && xmemN xgA_G42 52 && xmemP xgF_G42 48 4) = true := by decide +kernel
theorem zgw1_G44 : zAW.all (fun i => xmemN xgA_G44 i) = true := by decide +kernel
theorem zgw2_G44 : zFW.all (fun p => xmemP xgF_G44 p.1 p.2) = true := by decide +kernel
theorem zgw3_G44 : (xmemN xgA_G44 51 && xmemN xgA_G44 52 && xmemP xgF_G44 48 4) = true := by decide +kernel
theorem zgw1_G46 : zAW.all (fun i => xmemN xgA_G46 i) = true := by decide +kernel
theorem zgw2_G46 : zFW.all (fun p => xmemP xgF_G46 p.1 p.2) = true := by decide +kernel
theorem zgw3_G46 : (xmemN xgA_G46 51 && xmemN xgA_G46 52 && xmemP xgF_G46 48 4) = true := by decide +kernel
theorem zgw1_G47 : zAW.all (fun i => xmemN xgA_G47 i) = true := by decide +kernel
theorem zgw2_G47 : zFW.all (fun p => xmemP xgF_G47 p.1 p.2) = true := by decide +kernel
theorem zgw3_G47 : (xmemN xgA_G47 51 && xmemN xgA_G47 52 && xmemP xgF_G47 48 4) = true := by decide +kernel
theorem zgw1_G49 : zAW.all (fun i => xmemN xgA_G49 i) = true := by decide +kernel
theorem zgw2_G49 : zFW.all (fun p => xmemP xgF_G49 p.1 p.2) = true := by decide +kernel
theorem zgw3_G49 : (xmemN xgA_G49 51 && xmemN xgA_G49 52 && xmemP xgF_G49 48 4) = true := by decide +kernel
theorem zgw1_G51 : zAW.all (fun i => xmemN xgA_G51 i) = true := by decide +kernel
theorem zgw2_G51 : zFW.all (fun p => xmemP xgF_G51 p.1 p.2) = true := by decide +kernel
theorem zgw3_G51 : (xmemN xgA_G51 51 && xmemN xgA_G51 52 && xmemP xgF_G51 48 4) = true := by decide +kernel
theorem yz1_F (m : Int) (p : pm_H) (f : xhF xX m p [(4097, .inl (Int.ofNat 0, Int.ofNat 0))]) : yz1 p := by
  obtain ⟨x, g1, g2, g3⟩ := xhF_getA (a := 1) (c := 1) f (List.Mem.head _) rfl rfl
  obtain rfl := xint0 g2 g3
  exact g1
theorem xrk_sheet {x y z w : Int32} : xRk xLE (fun _ => True) 131 [.int x, .int y, .int z, .int w] kI := xRwr xLE_G39 xLE_G19 zgw1_G39 zgw2_G39 zgw3_G39 (fun h hC => xn_131_0 h) (by decide) (fun _ => ⟨xaRi rfl (by decide), xaT, xaT, xaT, xaT, trivial⟩) (fun _ _ h => yri h) (fun _ _ _ => trivial)
theorem xrk_hours {x : Int32} : xRk xLE (fun _ => True) 133 [.int x] kI := xRwr xLE_G42 xLE_G19 zgw1_G42 zgw2_G42 zgw3_G42 (fun h hC => xn_133_0 h hC) (by decide) (fun _ => ⟨xaRi rfl (by decide), xaT, trivial⟩) (fun _ _ h => yri h) (fun _ _ _ => trivial)
theorem xrk_faces {x y : Int32} : xRk xLE (fun _ => True) 134 [.int x, .int y] kI := xRwr xLE_G44 xLE_G19 zgw1_G44 zgw2_G44 zgw3_G44 (fun h hC => xn_134_0 h) (by decide) (fun _ => ⟨xaRi rfl (by decide), xaT, xaT, trivial⟩) (fun _ _ h => yri h) (fun _ _ _ => trivial)
theorem xrk_steps {x y : Int32} : xRk xLE (fun _ => True) 135 [.int x, .int y] kI := xRwr xLE_G46 xLE_G19 zgw1_G46 zgw2_G46 zgw3_G46 (fun h hC => xn_135_0 h) (by decide) (fun _ => ⟨xaRi rfl (by decide), xaT, xaT, trivial⟩) (fun _ _ h => yri h) (fun _ _ _ => trivial)
theorem xrk_trims {x y : Int32} : xRk xLE (fun _ => True) 136 [.int x, .int y] kI := xRwr xLE_G47 xLE_G19 zgw1_G47 zgw2_G47 zgw3_G47 (fun h hC => xn_136_0 h) (by decide) (fun _ => ⟨xaRi rfl (by decide), xaT, xaT, trivial⟩) (fun _ _ h => yri h) (fun _ _ _ => trivial)
theorem xrk_puts {x y : Int32} : xRk xLE (fun _ => True) 137 [.int x, .int y] kI := xRwr xLE_G49 xLE_G19 zgw1_G49 zgw2_G49 zgw3_G49 (fun h hC => xn_137_0 h) (by decide) (fun _ => ⟨xaRi rfl (by decide), xaT, xaT, trivial⟩) (fun _ _ h => yri h) (fun _ _ _ => trivial)
theorem xrk_undo : xRk xLE (fun _ => True) 139 [] kI := xRwr xLE_G13 xLE_G19 zgw1_G13 zgw2_G13 zgw3_G13 (fun h hC => xn_139_0 h) (by decide) (fun _ => ⟨xaRi rfl (by decide), trivial⟩) (fun _ _ h => yri h) (fun _ _ _ => trivial)
theorem xrk_heard {x y : Int32} : xRk xLE (fun _ => True) 166 [.int x, .int y] kI := xRwr xLE_G33 xLE_G19 zgw1_G33 zgw2_G33 zgw3_G33 (fun h hC => xn_166_0 h hC) (by decide) (fun _ => ⟨xaRi rfl (by decide), xaT, xaT, trivial⟩) (fun _ _ h => yri h) (fun _ _ _ => trivial)
theorem xrk_forget : xRk xLE (fun _ => True) 167 [] kI := xRwr xLE_G33 xLE_G19 zgw1_G33 zgw2_G33 zgw3_G33 (fun h hC => xn_167_0 h) (by decide) (fun _ => ⟨xaRi rfl (by decide), trivial⟩) (fun _ _ h => yri h) (fun _ _ _ => trivial)
theorem xrk_again {x : Int32} : xRk xLE (fun _ => True) 178 [.int x] kI := xRwr xLE_G17 xLE_G19 zgw1_G17 zgw2_G17 zgw3_G17 (fun h hC => xn_178_0 h) (by decide) (fun _ => ⟨xaRi rfl (by decide), xaT, trivial⟩) (fun _ _ h => yri h) (fun _ _ _ => trivial)
theorem xrk_keep {x : Int32} : xRk xLE (fun _ => True) 177 [.int x] kI := xRwr xLE_G16 xLE_G19 zgw1_G16 zgw2_G16 zgw3_G16 (fun h hC => xn_177_0 h) (by decide) (fun _ => ⟨xaRi rfl (by decide), xaT, trivial⟩) (fun _ _ h => yri h) (fun _ _ _ => trivial)
theorem xVI_G35 (n : Nat) : xHE xX xgA_G35 xgF_G35 (xVI n) := xVI_G (by decide +kernel) (by decide +kernel) n
theorem xrk_people : xRk xVI yz1 125 [] kI := xRwr xVI_G35 xVI_G19 zgw1_G35 zgw2_G35 zgw3_G35 (fun h hC => xn_125_0 h) (by decide) (fun _ => ⟨xaRi rfl (by decide), trivial⟩) (fun _ _ h => yri h) yz1_F
theorem xVI_G36 (n : Nat) : xHE xX xgA_G36 xgF_G36 (xVI n) := xVI_G (by decide +kernel) (by decide +kernel) n
theorem xrk_things : xRk xVI yz1 126 [] kI := xRwr xVI_G36 xVI_G19 zgw1_G36 zgw2_G36 zgw3_G36 (fun h hC => xn_126_0 h) (by decide) (fun _ => ⟨xaRi rfl (by decide), trivial⟩) (fun _ _ h => yri h) yz1_F
theorem xVI_G51 (n : Nat) : xHE xX xgA_G51 xgF_G51 (xVI n) := xVI_G (by decide +kernel) (by decide +kernel) n
theorem xrk_day : xRk xVI yz1 138 [] kI := xRwr xVI_G51 xVI_G19 zgw1_G51 zgw2_G51 zgw3_G51 (fun h hC => xn_138_0 h hC) (by decide) (fun _ => ⟨xaRi rfl (by decide), trivial⟩) (fun _ _ h => yri h) yz1_F
theorem xrs_facesE {x y : Int32} : xRs 134 249 [.int x, .int y] (fun a b => kI a ∧ a = b) := fun n hn ph ⟨hP, z, hR⟩ => by
  obtain ⟨v1, p1, a1, q1, b1, c1, e1, d1, -⟩ := xrk_faces n hn z ph hP hR.1 hR.2.2.1.1 hR.2.2.1.2
  obtain ⟨⟨R, C, rk, sn, sk⟩, ⟨cn, cd, cm, cdm⟩, ⟨F, F2, P, G, nx, u, fl, hn, ch⟩, ⟨v, w, sv, svm⟩, kp, kc⟩ := z
  obtain ⟨hLE, hpp, ⟨⟨hK, hX⟩, hcc⟩, hM, hMe⟩ := hR
  have hpq := hpp
  obtain ⟨zq, zF, zk, zch, ⟨zO, z40⟩, zw, zs⟩ := hpq
  have hS := zSh_of hP hX.2.2.2.2
  have hP8 := hK.2.1.2.1
  have hu15 := hK.2.2.1.2.2.2.1
  have eL : zEQ tL ph p1 := zEQ_m (fun _ _ t => Or.inl t) e1
  have eM : zEQ tM ph p1 := zEQ_m (fun _ _ t => Or.inr (Or.inr (Or.inr (Or.inl t)))) e1
  have hX1 := zXc_Q b1 eL (zEQ_m (fun _ _ t => Or.inr (Or.inl t)) e1) (zEQ_m (fun _ _ t => Or.inr (Or.inr (Or.inl t))) e1) hX
  have hM1 := zKM_Q eM hM
  have hMe1 := zMe_Q eM hMe
  have hS1 := zSh_of b1 hX1.2.2.2.2
  replace d1 : zCc p1 R C rk := d1
  have W1 := zc_faces hS hK zO (x := x) (y := y) 600 _ a1
  obtain ⟨v2, p2, a2, r, rfl, b2, c2, i2, t2, k2⟩ := xw_faces (n := n) (p := x) (q := y) (R := fun p => xtie p ∧ xSame xX zAC zFC p1 p) (xHE_and xHE_tie zRC_VR) (xLm_le (n := n + 1) (by omega)) xLm_0 (D := 600) (by decide) (xshift b1 (by decide)) c1.1.1 c1.2 ⟨c1.1.2, xSame_rf⟩
  have hLE2 : xLE (n + 1) p2 := ⟨⟨c2, t2⟩, xINV_le (Nat.le_succ n) i2⟩
  have e2 := zEQ_C b1 b2 k2
  have W2 := zm_faces hS1 hM1 zO (x := x) (y := y) 600 _ a2
  rcases W1 with ⟨g1, e3, K1⟩ | ⟨p, f, g1, g2, g3, g4, e3, nx1, K1⟩
  · rcases W2 with ⟨g5, e4, K2⟩ | ⟨p', f', g5, g6, g7, g8, e4, K2⟩
    · exact ⟨v1, .int r, p1, p2, ⟨xat0 hP, xat170 b1⟩, a1, a2, ⟨q1, (Option.some.inj e3).trans (Option.some.inj e4).symm⟩, xRI_fin b2 b1 hLE2 (zPP_le hpp) e2 K1 hX1 d1 K2 hMe1.2.1 hMe1.2.2⟩
    · have := zn_int g5 (by omega)
      have := zn_int g6 (by omega)
      omega
  · have h1 := zn_int g1 (by omega)
    have h2 := zn_int g2 (by omega)
    rcases W2 with ⟨g5, e4, K2⟩ | ⟨p', f', g5, g6, g7, g8, e4, K2⟩
    · omega
    · obtain rfl := zn_two g1 g5 (by omega) (by omega)
      obtain rfl := zn_two g2 g6 (by omega) (by omega)
      have z40' : (znu v (8 + p) f) 40 ≤ 540 * (n + 1) := by
        rw [znu_n (show (40 : Nat) ≠ 8 + p by omega)]
        omega
      exact ⟨v1, .int r, p1, p2, ⟨xat0 hP, xat170 b1⟩, a1, a2, ⟨q1, (Option.some.inj e3).trans (Option.some.inj e4).symm⟩, xRI_fin b2 b1 hLE2 (zPP_push (nx' := nx1) hpp hu15 (zOk_u zO (i := 8 + p) (x := f) (by omega) (by omega) (by omega) (by omega) (by omega) (by omega) hP8) z40') e2 K1 hX1 d1 K2 hMe1.2.1 hMe1.2.2⟩
theorem xrs_trimsE {x y : Int32} : xRs 136 251 [.int x, .int y] (fun a b => kI a ∧ a = b) := fun n hn ph ⟨hP, z, hR⟩ => by
  obtain ⟨v1, p1, a1, q1, b1, c1, e1, d1, -⟩ := xrk_trims n hn z ph hP hR.1 hR.2.2.1.1 hR.2.2.1.2
  obtain ⟨⟨R, C, rk, sn, sk⟩, ⟨cn, cd, cm, cdm⟩, ⟨F, F2, P, G, nx, u, fl, hn, ch⟩, ⟨v, w, sv, svm⟩, kp, kc⟩ := z
  obtain ⟨hLE, hpp, ⟨⟨hK, hX⟩, hcc⟩, hM, hMe⟩ := hR
  have hpq := hpp
  obtain ⟨zq, zF, zk, zch, ⟨zO, z40⟩, zw, zs⟩ := hpq
  have hS := zSh_of hP hX.2.2.2.2
  have hP8 := hK.2.1.2.1
  have hu15 := hK.2.2.1.2.2.2.1
  have eL : zEQ tL ph p1 := zEQ_m (fun _ _ t => Or.inl t) e1
  have eM : zEQ tM ph p1 := zEQ_m (fun _ _ t => Or.inr (Or.inr (Or.inr (Or.inl t)))) e1
  have hX1 := zXc_Q b1 eL (zEQ_m (fun _ _ t => Or.inr (Or.inl t)) e1) (zEQ_m (fun _ _ t => Or.inr (Or.inr (Or.inl t))) e1) hX
  have hM1 := zKM_Q eM hM
  have hMe1 := zMe_Q eM hMe
  have hS1 := zSh_of b1 hX1.2.2.2.2
  replace d1 : zCc p1 R C rk := d1
  have W1 := zc_trims hS hK zO (x := x) (y := y) 600 _ a1
  obtain ⟨v2, p2, a2, r, rfl, b2, c2, i2, t2, k2⟩ := xw_trims (n := n) (p := x) (q := y) (R := fun p => xtie p ∧ xSame xX zAC zFC p1 p) (xHE_and xHE_tie zRC_VR) (xLm_le (n := n + 1) (by omega)) xLm_0 (D := 600) (by decide) (xshift b1 (by decide)) c1.1.1 c1.2 ⟨c1.1.2, xSame_rf⟩
  have hLE2 : xLE (n + 1) p2 := ⟨⟨c2, t2⟩, xINV_le (Nat.le_succ n) i2⟩
  have e2 := zEQ_C b1 b2 k2
  have W2 := zm_trims hS1 hM1 zO (x := x) (y := y) 600 _ a2
  rcases W1 with ⟨g1, e3, K1⟩ | ⟨p, f, g1, g2, g3, g4, e3, nx1, K1⟩
  · rcases W2 with ⟨g5, e4, K2⟩ | ⟨p', f', g5, g6, g7, g8, e4, K2⟩
    · exact ⟨v1, .int r, p1, p2, ⟨xat0 hP, xat170 b1⟩, a1, a2, ⟨q1, (Option.some.inj e3).trans (Option.some.inj e4).symm⟩, xRI_fin b2 b1 hLE2 (zPP_le hpp) e2 K1 hX1 d1 K2 hMe1.2.1 hMe1.2.2⟩
    · have := zn_int g5 (by omega)
      have := zn_int g6 (by omega)
      omega
  · have h1 := zn_int g1 (by omega)
    have h2 := zn_int g2 (by omega)
    rcases W2 with ⟨g5, e4, K2⟩ | ⟨p', f', g5, g6, g7, g8, e4, K2⟩
    · omega
    · obtain rfl := zn_two g1 g5 (by omega) (by omega)
      obtain rfl := zn_two g2 g6 (by omega) (by omega)
      have z40' : (znu v (16 + p) f) 40 ≤ 540 * (n + 1) := by
        rw [znu_n (show (40 : Nat) ≠ 16 + p by omega)]
        omega
      exact ⟨v1, .int r, p1, p2, ⟨xat0 hP, xat170 b1⟩, a1, a2, ⟨q1, (Option.some.inj e3).trans (Option.some.inj e4).symm⟩, xRI_fin b2 b1 hLE2 (zPP_push (nx' := nx1) hpp hu15 (zOk_u zO (i := 16 + p) (x := f) (by omega) (by omega) (by omega) (by omega) (by omega) (by omega) hP8) z40') e2 K1 hX1 d1 K2 hMe1.2.1 hMe1.2.2⟩
theorem xrs_stepsE {x y : Int32} : xRs 135 250 [.int x, .int y] (fun a b => kI a ∧ a = b) := fun n hn ph ⟨hP, z, hR⟩ => by
  obtain ⟨v1, p1, a1, q1, b1, c1, e1, d1, -⟩ := xrk_steps n hn z ph hP hR.1 hR.2.2.1.1 hR.2.2.1.2
  obtain ⟨⟨R, C, rk, sn, sk⟩, ⟨cn, cd, cm, cdm⟩, ⟨F, F2, P, G, nx, u, fl, hn, ch⟩, ⟨v, w, sv, svm⟩, kp, kc⟩ := z
  obtain ⟨hLE, hpp, ⟨⟨hK, hX⟩, hcc⟩, hM, hMe⟩ := hR
  have hpq := hpp
  obtain ⟨zq, zF, zk, zch, ⟨zO, z40⟩, zw, zs⟩ := hpq
  have hS := zSh_of hP hX.2.2.2.2
  have hP8 := hK.2.1.2.1
  have hu15 := hK.2.2.1.2.2.2.1
  have eL : zEQ tL ph p1 := zEQ_m (fun _ _ t => Or.inl t) e1
  have eM : zEQ tM ph p1 := zEQ_m (fun _ _ t => Or.inr (Or.inr (Or.inr (Or.inl t)))) e1
  have hX1 := zXc_Q b1 eL (zEQ_m (fun _ _ t => Or.inr (Or.inl t)) e1) (zEQ_m (fun _ _ t => Or.inr (Or.inr (Or.inl t))) e1) hX
  have hM1 := zKM_Q eM hM
  have hMe1 := zMe_Q eM hMe
  have hS1 := zSh_of b1 hX1.2.2.2.2
  replace d1 : zCc p1 R C rk := d1
  have W1 := zc_steps hS hK zO (x := x) (y := y) 600 _ a1
  obtain ⟨v2, p2, a2, r, rfl, b2, c2, i2, t2, k2⟩ := xw_steps (n := n) (p := x) (q := y) (R := fun p => xtie p ∧ xSame xX zAC zFC p1 p) (xHE_and xHE_tie zRC_VR) (xLm_le (n := n + 1) (by omega)) xLm_0 (D := 600) (by decide) (xshift b1 (by decide)) c1.1.1 c1.2 ⟨c1.1.2, xSame_rf⟩
  have hLE2 : xLE (n + 1) p2 := ⟨⟨c2, t2⟩, xINV_le (Nat.le_succ n) i2⟩
  have e2 := zEQ_C b1 b2 k2
  have W2 := zm_steps hS1 hM1 zO (x := x) (y := y) 600 _ a2
  rcases W1 with ⟨g1, e3, K1⟩ | ⟨p, f, g1, g2, g3, g4, g9, e3, K1⟩ | ⟨p, f, g1, g2, g3, g4, g, gl, g9, e3, nx1, K1⟩
  · rcases W2 with ⟨g5, e4, K2⟩ | ⟨p', f', g5, g6, g7, g8, -⟩ | ⟨p', f', g5, g6, g7, g8, -⟩
    · exact ⟨v1, .int r, p1, p2, ⟨xat0 hP, xat170 b1⟩, a1, a2, ⟨q1, (Option.some.inj e3).trans (Option.some.inj e4).symm⟩, xRI_fin b2 b1 hLE2 (zPP_le hpp) e2 K1 hX1 d1 K2 hMe1.2.1 hMe1.2.2⟩
    · have := zn_int g5 (by omega)
      have := zn_int g6 (by omega)
      omega
    · have := zn_int g5 (by omega)
      have := zn_int g6 (by omega)
      omega
  · have h1 := zn_int g1 (by omega)
    have h2 := zn_int g2 (by omega)
    rcases W2 with ⟨g5, e4, K2⟩ | ⟨p', f', g5, g6, g7, g8, g10, e4, K2⟩ | ⟨p', f', g5, g6, g7, g8, g', gl', g10, e4, K2⟩
    · omega
    · exact ⟨v1, .int r, p1, p2, ⟨xat0 hP, xat170 b1⟩, a1, a2, ⟨q1, (Option.some.inj e3).trans (Option.some.inj e4).symm⟩, xRI_fin b2 b1 hLE2 (zPP_le hpp) e2 K1 hX1 d1 K2 hMe1.2.1 hMe1.2.2⟩
    · obtain rfl := zn_two g1 g5 (by omega) (by omega)
      obtain rfl := zn_two g2 g6 (by omega) (by omega)
      omega
  · have h1 := zn_int g1 (by omega)
    have h2 := zn_int g2 (by omega)
    rcases W2 with ⟨g5, e4, K2⟩ | ⟨p', f', g5, g6, g7, g8, g10, e4, K2⟩ | ⟨p', f', g5, g6, g7, g8, g', gl', g10, e4, K2⟩
    · omega
    · obtain rfl := zn_two g1 g5 (by omega) (by omega)
      obtain rfl := zn_two g2 g6 (by omega) (by omega)
      omega
    · obtain rfl := zn_two g1 g5 (by omega) (by omega)
      obtain rfl := zn_two g2 g6 (by omega) (by omega)
      obtain rfl : g = g' := by omega
      have e8 : 8 * (1 - 1) + p = p := by omega
      rw [e8] at K1
      have z40' : (znu v p g) 40 ≤ 540 * (n + 1) := by
        rw [znu_n (show (40 : Nat) ≠ p by omega)]
        omega
      exact ⟨v1, .int r, p1, p2, ⟨xat0 hP, xat170 b1⟩, a1, a2, ⟨q1, (Option.some.inj e3).trans (Option.some.inj e4).symm⟩, xRI_fin b2 b1 hLE2 (zPP_push (nx' := nx1) hpp hu15 (zOk_u zO (i := p) (x := g) (by omega) (fun _ => gl) (by omega) (by omega) (by omega) (fun _ => gl) hP8) z40') e2 K1 hX1 d1 K2 hMe1.2.1 hMe1.2.2⟩
theorem xrs_putsE {x y : Int32} : xRs 137 252 [.int x, .int y] (fun a b => kI a ∧ a = b) := fun n hn ph ⟨hP, z, hR⟩ => by
  obtain ⟨v1, p1, a1, q1, b1, c1, e1, d1, -⟩ := xrk_puts n hn z ph hP hR.1 hR.2.2.1.1 hR.2.2.1.2
  obtain ⟨⟨R, C, rk, sn, sk⟩, ⟨cn, cd, cm, cdm⟩, ⟨F, F2, P, G, nx, u, fl, hn, ch⟩, ⟨v, w, sv, svm⟩, kp, kc⟩ := z
  obtain ⟨hLE, hpp, ⟨⟨hK, hX⟩, hcc⟩, hM, hMe⟩ := hR
  have hpq := hpp
  obtain ⟨zq, zF, zk, zch, ⟨zO, z40⟩, zw, zs⟩ := hpq
  have hS := zSh_of hP hX.2.2.2.2
  have hP8 := hK.2.1.2.1
  have hu15 := hK.2.2.1.2.2.2.1
  have eL : zEQ tL ph p1 := zEQ_m (fun _ _ t => Or.inl t) e1
  have eM : zEQ tM ph p1 := zEQ_m (fun _ _ t => Or.inr (Or.inr (Or.inr (Or.inl t)))) e1
  have hX1 := zXc_Q b1 eL (zEQ_m (fun _ _ t => Or.inr (Or.inl t)) e1) (zEQ_m (fun _ _ t => Or.inr (Or.inr (Or.inl t))) e1) hX
  have hM1 := zKM_Q eM hM
  have hMe1 := zMe_Q eM hMe
  have hS1 := zSh_of b1 hX1.2.2.2.2
  replace d1 : zCc p1 R C rk := d1
  have hG8 := hK.2.1.2.2.2.1
  have hR49 : R * C ≤ 49 := zRC49 hM.1.2.2.2.2.1 hM.1.2.2.2.2.2.2
  have W1 := zc_puts hS hK zO (x := x) (y := y) 600 _ a1
  obtain ⟨v2, p2, a2, r, rfl, b2, c2, i2, t2, k2⟩ := xw_puts (n := n) (p := x) (q := y) (R := fun p => xtie p ∧ xSame xX zAC zFC p1 p) (xHE_and xHE_tie zRC_VR) (xLm_le (n := n + 1) (by omega)) xLm_0 (D := 600) (by decide) (xshift b1 (by decide)) c1.1.1 c1.2 ⟨c1.1.2, xSame_rf⟩
  have hLE2 : xLE (n + 1) p2 := ⟨⟨c2, t2⟩, xINV_le (Nat.le_succ n) i2⟩
  have e2 := zEQ_C b1 b2 k2
  have W2 := zm_puts hS1 hM1 zO (x := x) (y := y) 600 _ a2
  rcases W1 with ⟨g1, e3, K1⟩ | ⟨p, f, g1, g2, g3, g4, g9, e3, K1⟩ | ⟨p, f, g1, g2, g3, g4, g9, e3, nx1, K1⟩
  · rcases W2 with ⟨g5, e4, K2⟩ | ⟨p', f', g5, g6, g7, g8, -⟩ | ⟨p', f', g5, g6, g7, g8, -⟩
    · exact ⟨v1, .int r, p1, p2, ⟨xat0 hP, xat170 b1⟩, a1, a2, ⟨q1, (Option.some.inj e3).trans (Option.some.inj e4).symm⟩, xRI_fin b2 b1 hLE2 (zPP_le hpp) e2 K1 hX1 d1 K2 hMe1.2.1 hMe1.2.2⟩
    · have := zn_int g5 (by omega)
      have := zn_int g6 (by omega)
      omega
    · have := zn_int g5 (by omega)
      have := zn_int g6 (by omega)
      omega
  · have h1 := zn_int g1 (by omega)
    have h2 := zn_int g2 (by omega)
    rcases W2 with ⟨g5, e4, K2⟩ | ⟨p', f', g5, g6, g7, g8, g10, e4, K2⟩ | ⟨p', f', g5, g6, g7, g8, g10, e4, K2⟩
    · omega
    · exact ⟨v1, .int r, p1, p2, ⟨xat0 hP, xat170 b1⟩, a1, a2, ⟨q1, (Option.some.inj e3).trans (Option.some.inj e4).symm⟩, xRI_fin b2 b1 hLE2 (zPP_le hpp) e2 K1 hX1 d1 K2 hMe1.2.1 hMe1.2.2⟩
    · obtain rfl := zn_two g1 g5 (by omega) (by omega)
      obtain rfl := zn_two g2 g6 (by omega) (by omega)
      exact absurd g9 g10
  · have h1 := zn_int g1 (by omega)
    have h2 := zn_int g2 (by omega)
    rcases W2 with ⟨g5, e4, K2⟩ | ⟨p', f', g5, g6, g7, g8, g10, e4, K2⟩ | ⟨p', f', g5, g6, g7, g8, g10, e4, K2⟩
    · omega
    · obtain rfl := zn_two g1 g5 (by omega) (by omega)
      obtain rfl := zn_two g2 g6 (by omega) (by omega)
      exact absurd g10 g9
    · obtain rfl := zn_two g1 g5 (by omega) (by omega)
      obtain rfl := zn_two g2 g6 (by omega) (by omega)
      have z40' : (znu v (32 + p) f) 40 ≤ 540 * (n + 1) := by
        rw [znu_n (show (40 : Nat) ≠ 32 + p by omega)]
        omega
      exact ⟨v1, .int r, p1, p2, ⟨xat0 hP, xat170 b1⟩, a1, a2, ⟨q1, (Option.some.inj e3).trans (Option.some.inj e4).symm⟩, xRI_fin b2 b1 hLE2 (zPP_push (nx' := nx1) hpp hu15 (zOk_u zO (i := 32 + p) (x := f) (by omega) (by omega) (by omega) (by omega) (by omega) (fun _ => g4) hP8) z40') e2 K1 hX1 d1 K2 hMe1.2.1 hMe1.2.2⟩
theorem xrs_undoE : xRs 139 241 [] (fun a b => kI a ∧ a = b) := fun n hn ph ⟨hP, z, hR⟩ => by
  obtain ⟨v1, p1, a1, q1, b1, c1, e1, d1, -⟩ := xrk_undo n hn z ph hP hR.1 hR.2.2.1.1 hR.2.2.1.2
  obtain ⟨⟨R, C, rk, sn, sk⟩, ⟨cn, cd, cm, cdm⟩, ⟨F, F2, P, G, nx, u, fl, hn, ch⟩, ⟨v, w, sv, svm⟩, kp, kc⟩ := z
  obtain ⟨hLE, hpp, ⟨⟨hK, hX⟩, hcc⟩, hM, hMe⟩ := hR
  have hpq := hpp
  obtain ⟨zq, zF, zk, zch, ⟨zO, z40⟩, zw, zs⟩ := hpq
  have hS := zSh_of hP hX.2.2.2.2
  have hP8 := hK.2.1.2.1
  have hu15 := hK.2.2.1.2.2.2.1
  have eL : zEQ tL ph p1 := zEQ_m (fun _ _ t => Or.inl t) e1
  have eM : zEQ tM ph p1 := zEQ_m (fun _ _ t => Or.inr (Or.inr (Or.inr (Or.inl t)))) e1
  have hX1 := zXc_Q b1 eL (zEQ_m (fun _ _ t => Or.inr (Or.inl t)) e1) (zEQ_m (fun _ _ t => Or.inr (Or.inr (Or.inl t))) e1) hX
  have hM1 := zKM_Q eM hM
  have hMe1 := zMe_Q eM hMe
  have hS1 := zSh_of b1 hX1.2.2.2.2
  replace d1 : zCc p1 R C rk := d1
  have W1 := zc_undo hS hK zO 600 _ a1
  obtain ⟨v2, p2, a2, r, rfl, b2, c2, i2, t2, k2⟩ := xundo (n := n) (R := fun p => xtie p ∧ xSame xX zAC zFC p1 p) (xHE_and xHE_tie zRC_VR) (xLm_le (n := n + 1) (by omega)) xLm_0 (D := 599) (xshift b1 (by decide)) c1.1.1 c1.2 ⟨c1.1.2, xSame_rf⟩
  have hLE2 : xLE (n + 1) p2 := ⟨⟨c2, t2⟩, xINV_le (Nat.le_succ n) i2⟩
  have e2 := zEQ_C b1 b2 k2
  have W2 := zm_undo hS1 hM1 zO 600 _ a2
  rcases W1 with ⟨g1, e3, K1⟩ | ⟨g1, e3, nx1, K1⟩
  · rcases W2 with ⟨g5, e4, K2⟩ | ⟨g5, e4, K2⟩
    · exact ⟨v1, .int r, p1, p2, ⟨xat0 hP, xat170 b1⟩, a1, a2, ⟨q1, (Option.some.inj e3).trans (Option.some.inj e4).symm⟩, xRI_fin b2 b1 hLE2 (zPP_le hpp) e2 K1 hX1 d1 K2 hMe1.2.1 hMe1.2.2⟩
    · omega
  · rcases W2 with ⟨g5, e4, K2⟩ | ⟨g5, e4, K2⟩
    · omega
    · exact ⟨v1, .int r, p1, p2, ⟨xat0 hP, xat170 b1⟩, a1, a2, ⟨q1, (Option.some.inj e3).trans (Option.some.inj e4).symm⟩, xRI_fin b2 b1 hLE2 (zPP_set (nx' := nx1) (u' := u - 1) hpp (by omega) (zw (u - 1) (by omega)).1 (by have := (zw (u - 1) (by omega)).2; omega)) e2 K1 hX1 d1 K2 hMe1.2.1 hMe1.2.2⟩
theorem xrs_againE {x : Int32} : xRs 178 297 [.int x] (fun a b => kI a ∧ a = b) := fun n hn ph ⟨hP, z, hR⟩ => by
  obtain ⟨v1, p1, a1, q1, b1, c1, e1, d1, -⟩ := xrk_again n hn z ph hP hR.1 hR.2.2.1.1 hR.2.2.1.2
  obtain ⟨⟨R, C, rk, sn, sk⟩, ⟨cn, cd, cm, cdm⟩, ⟨F, F2, P, G, nx, u, fl, hn, ch⟩, ⟨v, w, sv, svm⟩, kp, kc⟩ := z
  obtain ⟨hLE, hpp, ⟨⟨hK, hX⟩, hcc⟩, hM, hMe⟩ := hR
  have hpq := hpp
  obtain ⟨zq, zF, zk, zch, ⟨zO, z40⟩, zw, zs⟩ := hpq
  have hS := zSh_of hP hX.2.2.2.2
  have hP8 := hK.2.1.2.1
  have hu15 := hK.2.2.1.2.2.2.1
  have eL : zEQ tL ph p1 := zEQ_m (fun _ _ t => Or.inl t) e1
  have eM : zEQ tM ph p1 := zEQ_m (fun _ _ t => Or.inr (Or.inr (Or.inr (Or.inl t)))) e1
  have hX1 := zXc_Q b1 eL (zEQ_m (fun _ _ t => Or.inr (Or.inl t)) e1) (zEQ_m (fun _ _ t => Or.inr (Or.inr (Or.inl t))) e1) hX
  have hM1 := zKM_Q eM hM
  have hMe1 := zMe_Q eM hMe
  have hS1 := zSh_of b1 hX1.2.2.2.2
  replace d1 : zCc p1 R C rk := d1
  have W1 := zc_again hS hK zO (x := x) 600 _ a1
  obtain ⟨v2, p2, a2, r, rfl, b2, c2, i2, t2, k2⟩ := xagain (n := n) (y := x) (R := fun p => xtie p ∧ xSame xX zAC zFC p1 p) (xHE_and xHE_tie zRC_VR) (xLm_le (n := n + 1) (by omega)) xLm_0 (D := 600) (by decide) (xshift b1 (by decide)) c1.1.1 c1.2 ⟨c1.1.2, xSame_rf⟩
  have hLE2 : xLE (n + 1) p2 := ⟨⟨c2, t2⟩, xINV_le (Nat.le_succ n) i2⟩
  have e2 := zEQ_C b1 b2 k2
  have W2 := zm_again hS1 hM1 zO (x := x) 600 _ a2
  rcases W1 with ⟨g1, e3, K1⟩ | ⟨i, g1, g2, g3, e3, K1⟩
  · rcases W2 with ⟨g5, e4, K2⟩ | ⟨i, g5, g6, g7, g8, e4, K2⟩
    · exact ⟨v1, .int r, p1, p2, ⟨xat0 hP, xat170 b1⟩, a1, a2, ⟨q1, (Option.some.inj e3).trans (Option.some.inj e4).symm⟩, xRI_fin b2 b1 hLE2 (zPP_le hpp) e2 K1 hX1 d1 K2 hMe1.2.1 hMe1.2.2⟩
    · exfalso
      have h1 := (zk i g6).1
      rw [g7, g8, decide_eq_true rfl] at h1
      rcases g1 with g | g | g
      · omega
      · omega
      · rw [show x.toInt.toNat = i by omega, h1] at g
        cases g
  · rcases W2 with ⟨g5, e4, K2⟩ | ⟨i', g5, g6, g7, g8, e4, K2⟩
    · exfalso
      have h1 := (zk i g2).1
      rw [g3] at h1
      obtain ⟨h2, h3⟩ := Bool.and_eq_true_iff.mp h1.symm
      have h3 := of_decide_eq_true h3
      rw [show x.toInt.toNat = i by omega] at g5
      rcases g5 with g | g | g | g
      · omega
      · omega
      · rw [h2] at g
        cases g
      · exact g h3
    · obtain rfl : i = i' := by omega
      have es := (zk i g2).2 g3
      rw [← es] at K2
      exact ⟨v1, .int r, p1, p2, ⟨xat0 hP, xat170 b1⟩, a1, a2, ⟨q1, (Option.some.inj e3).trans (Option.some.inj e4).symm⟩, xRI_fin b2 b1 hLE2 (zPP_set (nx' := nx) (u' := 0) hpp (Nat.zero_le _) (zs i g2 g3).1 (by have := (zs i g2 g3).2; omega)) e2 K1 hX1 d1 K2 hMe1.2.1 hMe1.2.2⟩
theorem xrs_keepE {x : Int32} : xRs 177 296 [.int x] (fun a b => kI a ∧ a = b) := fun n hn ph ⟨hP, z, hR⟩ => by
  obtain ⟨v1, p1, a1, q1, b1, c1, e1, d1, -⟩ := xrk_keep n hn z ph hP hR.1 hR.2.2.1.1 hR.2.2.1.2
  obtain ⟨⟨R, C, rk, sn, sk⟩, ⟨cn, cd, cm, cdm⟩, ⟨F, F2, P, G, nx, u, fl, hn, ch⟩, ⟨v, w, sv, svm⟩, kp, kc⟩ := z
  obtain ⟨hLE, hpp, ⟨⟨hK, hX⟩, hcc⟩, hM, hMe⟩ := hR
  have hpq := hpp
  obtain ⟨zq, zF, zk, zch, ⟨zO, z40⟩, zw, zs⟩ := hpq
  have hS := zSh_of hP hX.2.2.2.2
  have hP8 := hK.2.1.2.1
  have hu15 := hK.2.2.1.2.2.2.1
  have eL : zEQ tL ph p1 := zEQ_m (fun _ _ t => Or.inl t) e1
  have eM : zEQ tM ph p1 := zEQ_m (fun _ _ t => Or.inr (Or.inr (Or.inr (Or.inl t)))) e1
  have hX1 := zXc_Q b1 eL (zEQ_m (fun _ _ t => Or.inr (Or.inl t)) e1) (zEQ_m (fun _ _ t => Or.inr (Or.inr (Or.inl t))) e1) hX
  have hM1 := zKM_Q eM hM
  have hMe1 := zMe_Q eM hMe
  have hS1 := zSh_of b1 hX1.2.2.2.2
  replace d1 : zCc p1 R C rk := d1
  have W1 := zc_keep hS hK zO (x := x) 600 _ a1
  obtain ⟨v2, p2, a2, r, rfl, b2, c2, i2, ⟨t2, k2⟩, -⟩ := xkeeps (n := n) (y := x) (R := fun p => xtie p ∧ xSame xX zAC zFC p1 p) (xHE_and xHE_tie zRC_VR) (xLm_le (n := n + 1) (by omega)) xLm_0 (D := 600) (by decide) (xshift b1 (by decide)) c1.1.1 c1.2 ⟨c1.1.2, xSame_rf⟩
  have hLE2 : xLE (n + 1) p2 := ⟨⟨c2, t2⟩, xINV_le (Nat.le_succ n) i2⟩
  have e2 := zEQ_C b1 b2 k2
  have W2 := zm_keep hS1 hM1 zO (x := x) 600 _ a2
  rcases W1 with ⟨g1, e3, K1⟩ | ⟨i, g1, g2, e3, K1⟩
  · rcases W2 with ⟨g5, e4, K2⟩ | ⟨i, g5, g6, e4, K2⟩
    · exact ⟨v1, .int r, p1, p2, ⟨xat0 hP, xat170 b1⟩, a1, a2, ⟨q1, (Option.some.inj e3).trans (Option.some.inj e4).symm⟩, xRI_fin b2 b1 hLE2 (zPP_le hpp) e2 K1 hX1 d1 K2 hMe1.2.1 hMe1.2.2⟩
    · omega
  · rcases W2 with ⟨g5, e4, K2⟩ | ⟨i', g5, g6, e4, K2⟩
    · omega
    · obtain rfl : i = i' := by omega
      have hfl := hK.2.2.2.1.2.1
      have hpk : zPP (n + 1) ((R, C, rk, sn, sk), (cn, cd, cm, cdm), (F, F2, P, G, nx, u, fl ||| 2 ^ i, hn, ch), (v, w, (fun j => if j = i then v else sv j), (fun j => if j = i then v else svm j)), ((fun j => if j = i then true else kp j), (fun j => if j = i then ch else kc j))) := by
        refine ⟨zq, zF, fun j hj => ?_, by omega, ⟨zO, by omega⟩, fun j hj => ⟨(zw j hj).1, by have := (zw j hj).2; omega⟩, fun j hj hb => ?_⟩
        · rw [ztb fl hfl i g2 j hj]
          by_cases e : j = i
          · subst e
            rw [decide_eq_true rfl]
            refine ⟨?_, fun _ => ?_⟩
            · show (true || fl.testBit j) = ((if j = j then true else kp j) && decide ((if j = j then ch else kc j) = ch))
              rw [if_pos rfl, if_pos rfl, decide_eq_true rfl]
              rfl
            · show (if j = j then v else sv j) = (if j = j then v else svm j)
              rw [if_pos rfl, if_pos rfl]
          · rw [decide_eq_false e]
            show (false || fl.testBit j) = ((if j = i then true else kp j) && decide ((if j = i then ch else kc j) = ch)) ∧ ((false || fl.testBit j) = true → (if j = i then v else sv j) = (if j = i then v else svm j))
            rw [if_neg e, if_neg e, if_neg e, if_neg e, Bool.false_or]
            exact zk j hj
        · rw [ztb fl hfl i g2 j hj] at hb
          show zOk R C P G (if j = i then v else sv j) ∧ (if j = i then v else sv j) 40 ≤ 540 * (n + 1)
          by_cases e : j = i
          · rw [if_pos e]
            exact ⟨zO, by omega⟩
          · rw [if_neg e]
            rw [decide_eq_false e, Bool.false_or] at hb
            exact ⟨(zs j hj hb).1, by have := (zs j hj hb).2; omega⟩
      exact ⟨v1, .int r, p1, p2, ⟨xat0 hP, xat170 b1⟩, a1, a2, ⟨q1, (Option.some.inj e3).trans (Option.some.inj e4).symm⟩, xRI_fin b2 b1 hLE2 (hpk) e2 K1 hX1 d1 K2 hMe1.2.1 hMe1.2.2⟩
theorem zsr_ok {R C P G : Nat} {v : Nat → Nat} {kd nn f st : Int32} (hP : P ≤ 8) (h : zOk R C P G v) : zOk R C P G (zsr v P kd nn f st) ∧ (zsr v P kd nn f st) 40 = v 40 := by
  unfold zsr
  split
  · exact ⟨h, rfl⟩
  · exact ⟨zsh_ok hP h, zsh_o (by omega)⟩
theorem xrs_sheetE {x y z w : Int32} : xRs 131 237 [.int x, .int y, .int z, .int w] (fun a b => kI a ∧ a = b) := fun n hn ph ⟨hP, z0, hR⟩ => by
  obtain ⟨v1, p1, a1, q1, b1, c1, e1, d1, -⟩ := xrk_sheet n hn z0 ph hP hR.1 hR.2.2.1.1 hR.2.2.1.2
  obtain ⟨⟨R, C, rk, sn, sk⟩, ⟨cn, cd, cm, cdm⟩, ⟨F, F2, P, G, nx, u, fl, hn, ch⟩, ⟨v, w9, sv, svm⟩, kp, kc⟩ := z0
  obtain ⟨hLE, hpp, ⟨⟨hK, hX⟩, hcc⟩, hM, hMe⟩ := hR
  have hpq := hpp
  obtain ⟨zq, zF, zk, zch, ⟨zO, z40⟩, zw, zs⟩ := hpq
  have hS := zSh_of hP hX.2.2.2.2
  have hP8 := hK.2.1.2.1
  have hu15 := hK.2.2.1.2.2.2.1
  have eL : zEQ tL ph p1 := zEQ_m (fun _ _ t => Or.inl t) e1
  have eM : zEQ tM ph p1 := zEQ_m (fun _ _ t => Or.inr (Or.inr (Or.inr (Or.inl t)))) e1
  have hX1 := zXc_Q b1 eL (zEQ_m (fun _ _ t => Or.inr (Or.inl t)) e1) (zEQ_m (fun _ _ t => Or.inr (Or.inr (Or.inl t))) e1) hX
  have hM1 := zKM_Q eM hM
  have hMe1 := zMe_Q eM hMe
  have hS1 := zSh_of b1 hX1.2.2.2.2
  replace d1 : zCc p1 R C rk := d1
  have W1 := zc_sheet hS hK zO (kd := x) (nn := y) (ff := z) (sp := w) 600 _ a1
  obtain ⟨v2, p2, a2, b2, c2, r2, -⟩ := xn_237_0 (E := fun p => xLE n p ∧ xSame xX zAC zFC p1 p) (xHE_and (xLE_G76 n) (xHE_sub (by decide +kernel) (by decide +kernel) xHE_slf)) 600 (by decide) (xLm (n + 1)) (xLm_le (by omega)) (by unfold xLm; omega) [.ref 170, .int x, .int y, .int z, .int w] p1 ⟨xaRi rfl (by decide), xaT, xaT, xaT, xaT, trivial⟩ (fun _ _ h => absurd h List.not_mem_nil) (xshift b1 (by decide)) ⟨c1, xSame_rf⟩
  obtain ⟨u2, rfl, r, rfl⟩ := yri r2
  have hLE2 : xLE (n + 1) p2 := xLE_le c2.1
  have e2 := zEQ_C b1 b2 c2.2
  have W2 := zm_sheet hS1 hM1 zO (kd := x) (nn := y) (ff := z) (sp := w) 600 _ a2
  obtain ⟨e3, K1⟩ := W1
  obtain ⟨e4, K2⟩ := W2
  have hz := zsr_ok (kd := x) (nn := y) (f := z) (st := w) hP8 zO
  exact ⟨v1, .int r, p1, p2, ⟨xat0 hP, xat170 b1⟩, a1, a2, ⟨q1, (Option.some.inj e3).trans (Option.some.inj e4).symm⟩, xRI_fin b2 b1 hLE2 (zPP_set (nx' := nx) (u' := u) hpp (Nat.le_refl _) hz.1 (by rw [hz.2]; omega)) e2 K1 hX1 d1 K2 hMe1.2.1 hMe1.2.2⟩
theorem xrs_forgetE : xRs 167 284 [] (fun a b => kI a ∧ a = b) := fun n hn ph ⟨hP, z, hR⟩ => by
  obtain ⟨v1, p1, a1, q1, b1, c1, e1, d1, -⟩ := xrk_forget n hn z ph hP hR.1 hR.2.2.1.1 hR.2.2.1.2
  obtain ⟨⟨R, C, rk, sn, sk⟩, ⟨cn, cd, cm, cdm⟩, ⟨F, F2, P, G, nx, u, fl, hn, ch⟩, ⟨v, w, sv, svm⟩, kp, kc⟩ := z
  obtain ⟨hLE, hpp, ⟨⟨hK, hX⟩, hcc⟩, hM, hMe⟩ := hR
  have hpq := hpp
  obtain ⟨zq, zF, zk, zch, ⟨zO, z40⟩, zw, zs⟩ := hpq
  have hS := zSh_of hP hX.2.2.2.2
  have hP8 := hK.2.1.2.1
  have hu15 := hK.2.2.1.2.2.2.1
  have eL : zEQ tL ph p1 := zEQ_m (fun _ _ t => Or.inl t) e1
  have eM : zEQ tM ph p1 := zEQ_m (fun _ _ t => Or.inr (Or.inr (Or.inr (Or.inl t)))) e1
  have hX1 := zXc_Q b1 eL (zEQ_m (fun _ _ t => Or.inr (Or.inl t)) e1) (zEQ_m (fun _ _ t => Or.inr (Or.inr (Or.inl t))) e1) hX
  have hM1 := zKM_Q eM hM
  have hMe1 := zMe_Q eM hMe
  have hS1 := zSh_of b1 hX1.2.2.2.2
  replace d1 : zCc p1 R C rk := d1
  have W1 := zc_forget hS hK zO 600 _ a1
  obtain ⟨v2, p2, a2, b2, c2, r2, -⟩ := xn_284_0 (E := fun p => xLE n p ∧ xSame xX zAC zFC p1 p) (xHE_and (xLE_G100 n) (xHE_sub (by decide +kernel) (by decide +kernel) xHE_slf)) 600 (by decide) (xLm (n + 1)) (xLm_le (by omega)) (by unfold xLm; omega) [.ref 170] p1 ⟨xaRi rfl (by decide), trivial⟩ (fun _ _ h => absurd h List.not_mem_nil) (xshift b1 (by decide)) ⟨c1, xSame_rf⟩
  obtain ⟨u2, rfl, r, rfl⟩ := yri r2
  have hLE2 : xLE (n + 1) p2 := xLE_le c2.1
  have e2 := zEQ_C b1 b2 c2.2
  have W2 := zm_forget hS1 hM1 zO 600 _ a2
  obtain ⟨e3, K1⟩ := W1
  obtain ⟨e4, K2⟩ := W2
  exact ⟨v1, .int r, p1, p2, ⟨xat0 hP, xat170 b1⟩, a1, a2, ⟨q1, (Option.some.inj e3).trans (Option.some.inj e4).symm⟩, xRI_fin b2 b1 hLE2 (zPP_hn (hn' := 0) hpp) e2 K1 hX1 d1 K2 hMe1.2.1 hMe1.2.2⟩
theorem xrs_heardE {x y : Int32} : xRs 166 283 [.int x, .int y] (fun a b => kI a ∧ a = b) := fun n hn ph ⟨hP, z, hR⟩ => by
  obtain ⟨v1, p1, a1, q1, b1, c1, e1, d1, -⟩ := xrk_heard n hn z ph hP hR.1 hR.2.2.1.1 hR.2.2.1.2
  obtain ⟨⟨R, C, rk, sn, sk⟩, ⟨cn, cd, cm, cdm⟩, ⟨F, F2, P, G, nx, u, fl, hn, ch⟩, ⟨v, w, sv, svm⟩, kp, kc⟩ := z
  obtain ⟨hLE, hpp, ⟨⟨hK, hX⟩, hcc⟩, hM, hMe⟩ := hR
  have hpq := hpp
  obtain ⟨zq, zF, zk, zch, ⟨zO, z40⟩, zw, zs⟩ := hpq
  have hS := zSh_of hP hX.2.2.2.2
  have hP8 := hK.2.1.2.1
  have hu15 := hK.2.2.1.2.2.2.1
  have eL : zEQ tL ph p1 := zEQ_m (fun _ _ t => Or.inl t) e1
  have eM : zEQ tM ph p1 := zEQ_m (fun _ _ t => Or.inr (Or.inr (Or.inr (Or.inl t)))) e1
  have hX1 := zXc_Q b1 eL (zEQ_m (fun _ _ t => Or.inr (Or.inl t)) e1) (zEQ_m (fun _ _ t => Or.inr (Or.inr (Or.inl t))) e1) hX
  have hM1 := zKM_Q eM hM
  have hMe1 := zMe_Q eM hMe
  have hS1 := zSh_of b1 hX1.2.2.2.2
  replace d1 : zCc p1 R C rk := d1
  have h13 : ∃ m, zc ph 0 13 = some (.long m) := by
    obtain ⟨fl9, hat, hfl⟩ := zxO_at hP (A := 0) (i := 31) rfl rfl
    obtain ⟨v9, hv9, x9, rfl⟩ := hfl 13 _ rfl
    refine ⟨x9, ?_⟩
    unfold zc
    rw [hat]
    exact hv9
  have W1 := zc_heard hS hK zO (x := x) (y := y) h13 (fun p hp => zM_imp (zc_viewOf hS hX.1 ⟨⟨by decide, zSs_of hS (by decide)⟩, hK.2.1⟩ zO hX.2.1 hcc hp) (fun v0 q h => ⟨h.1, _, h.2.2⟩)) 600 _ a1
  obtain ⟨v2, p2, a2, b2, c2, r2, -⟩ := xn_283_0 (E := fun p => xLE n p ∧ xSame xX zAC zFC p1 p) (xHE_and (xLE_G99 n) (xHE_sub (by decide +kernel) (by decide +kernel) xHE_slf)) 600 (by decide) (xLm (n + 1)) (xLm_le (by omega)) (by unfold xLm; omega) [.ref 170, .int x, .int y] p1 ⟨xaRi rfl (by decide), xaT, xaT, trivial⟩ (fun _ _ h => absurd h List.not_mem_nil) (xshift b1 (by decide)) ⟨c1, xSame_rf⟩
  obtain ⟨u2, rfl, r, rfl⟩ := yri r2
  have hLE2 : xLE (n + 1) p2 := xLE_le c2.1
  have e2 := zEQ_C b1 b2 c2.2
  have W2 := zm_heard hS1 hM1 zO (x := x) (y := y) 600 _ a2
  rcases W1 with ⟨g1, e3, K1⟩ | ⟨g1, g2, g3, g4, g5, e3, K1⟩
  · rcases W2 with ⟨g6, e4, K2⟩ | ⟨g6, g7, g8, g9, g10, e4, K2⟩
    · exact ⟨v1, .int r, p1, p2, ⟨xat0 hP, xat170 b1⟩, a1, a2, ⟨q1, (Option.some.inj e3).trans (Option.some.inj e4).symm⟩, xRI_fin b2 b1 hLE2 (zPP_le hpp) e2 K1 hX1 d1 K2 hMe1.2.1 hMe1.2.2⟩
    · omega
  · rcases W2 with ⟨g6, e4, K2⟩ | ⟨g6, g7, g8, g9, g10, e4, K2⟩
    · omega
    · exact ⟨v1, .int r, p1, p2, ⟨xat0 hP, xat170 b1⟩, a1, a2, ⟨q1, (Option.some.inj e3).trans (Option.some.inj e4).symm⟩, xRI_fin b2 b1 hLE2 (zPP_hn (hn' := hn + 1) hpp) e2 K1 hX1 d1 K2 hMe1.2.1 hMe1.2.2⟩
