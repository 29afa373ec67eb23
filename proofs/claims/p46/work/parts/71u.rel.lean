/-! what ties class and reference: the relation, looks; printed by wip/rel/r2.py -/
/-- what is kept: the class has a bit, the reference a mark and the count of changes -/
def zKq (fl ch : Nat) (kp : Nat → Bool) (kc : Nat → Nat) (sv svm : Nat → Nat → Nat) : Prop := ∀ i, i < 3 → fl.testBit i = (kp i && decide (kc i = ch)) ∧ (fl.testBit i = true → sv i = svm i)
/-- the RULE's codes; no RULE told: the class holds l - b in codes, the reference none -/
def zQe (cn : Nat) (cd : Nat → Nat) (cm : Nat) (cdm : Nat → Nat) : Prop := (cm = cn ∧ cdm = cd) ∨ (cm = 0 ∧ cn = 3 ∧ cd 0 = 1001 ∧ cd 1 = 1000 ∧ cd 2 = 2004)
abbrev zPar : Type := (Nat × Nat × (Nat → Bool) × Nat × (Nat → Nat)) × (Nat × (Nat → Nat) × Nat × (Nat → Nat)) × (Nat × Nat × Nat × Nat × Nat × Nat × Nat × Nat × Nat) × ((Nat → Nat) × (Nat → Nat → Nat) × (Nat → Nat → Nat) × (Nat → Nat → Nat)) × ((Nat → Bool) × (Nat → Nat))
/-- on paper, after n calls -/
def zPP (n : Nat) (z : zPar) : Prop := match z with
  | ((R, C, rk, sn, sk), (cn, cd, cm, cdm), (F, F2, P, G, nx, u, fl, hn, ch), (v, w, sv, svm), (kp, kc)) => zQe cn cd cm cdm ∧ ((F = 11 ∧ F2 = 16) ∨ (F = 16 ∧ F2 = 11)) ∧ zKq fl ch kp kc sv svm ∧ ch ≤ n ∧ (zOk R C P G v ∧ v 40 ≤ 540 * n) ∧ (∀ i, i < u → zOk R C P G (w i) ∧ w i 40 ≤ 540 * n) ∧ ∀ i, i < 3 → fl.testBit i = true → zOk R C P G (sv i) ∧ sv i 40 ≤ 540 * n
def zCR (p : pm_H) (z : zPar) : Prop := match z with
  | ((R, C, rk, sn, sk), (cn, cd, cm, cdm), (F, F2, P, G, nx, u, fl, hn, ch), (v, w, sv, svm), (kp, kc)) => zKC p R C rk P G v nx u w fl sv hn ∧ zXc p (R, C, rk, sn, sk, cn, cd) F F2
def zMR (p : pm_H) (z : zPar) : Prop := match z with
  | ((R, C, rk, sn, sk), (cn, cd, cm, cdm), (F, F2, P, G, nx, u, fl, hn, ch), (v, w, sv, svm), (kp, kc)) => zKM p R C rk P G v u w ch kp kc svm hn ∧ zMe p (R, C, rk, sn, sk, cm, cdm)
def zCC (p : pm_H) (z : zPar) : Prop := zCc p z.1.1 z.1.2.1 z.1.2.2.1
def xRE (n : Nat) (z : zPar) (p : pm_H) : Prop := xLE n p ∧ zPP n z ∧ (zCR p z ∧ zCC p z) ∧ zMR p z
def xRI (n : Nat) (ph : pm_H) : Prop := xH xX kK (xLm n) 0 ph ∧ ∃ z, xRE n z ph
theorem zPP_le {n : Nat} {z : zPar} (h : zPP n z) : zPP (n + 1) z := by
  obtain ⟨⟨R, C, rk, sn, sk⟩, ⟨cn, cd, cm, cdm⟩, ⟨F, F2, P, G, nx, u, fl, hn, ch⟩, ⟨v, w, sv, svm⟩, kp, kc⟩ := z
  obtain ⟨h1, h2, h3, h4, h5, h6, h7⟩ := h
  exact ⟨h1, h2, h3, by omega, ⟨h5.1, by omega⟩, fun i hi => ⟨(h6 i hi).1, by have := (h6 i hi).2; omega⟩, fun i hi hb => ⟨(h7 i hi hb).1, by have := (h7 i hi hb).2; omega⟩⟩
theorem xLE_le {n : Nat} {p : pm_H} (h : xLE n p) : xLE (n + 1) p := ⟨h.1, xINV_le (Nat.le_succ n) h.2⟩
theorem zCR_l {p : pm_H} {z : zPar} (h : zCR p z) : zCl p z.1.1 z.1.2.1 z.1.2.2.1 := by
  obtain ⟨⟨R, C, rk, sn, sk⟩, ⟨cn, cd, cm, cdm⟩, ⟨F, F2, P, G, nx, u, fl, hn, ch⟩, ⟨v, w, sv, svm⟩, kp, kc⟩ := z
  exact h.1.1
theorem zCR_4 {p : pm_H} {z : zPar} (h : zCR p z) : zs44 p := by
  obtain ⟨⟨R, C, rk, sn, sk⟩, ⟨cn, cd, cm, cdm⟩, ⟨F, F2, P, G, nx, u, fl, hn, ch⟩, ⟨v, w, sv, svm⟩, kp, kc⟩ := z
  exact h.2.2.2.2.2
theorem zCR_Q {p q : pm_H} {z : zPar} {m : Int} {w0 : Nat} (hq : xH xX kK m w0 q) (h : zEQ tRR p q) (g : zCR p z) : zCR q z := by
  obtain ⟨⟨R, C, rk, sn, sk⟩, ⟨cn, cd, cm, cdm⟩, ⟨F, F2, P, G, nx, u, fl, hn, ch⟩, ⟨v, w, sv, svm⟩, kp, kc⟩ := z
  exact ⟨zKC_Q (zEQ_m (fun _ _ t => Or.inl t) h) (zEQ_m (fun _ _ t => Or.inr (Or.inl t)) h) (zEQ_m (fun _ _ t => Or.inr (Or.inr (Or.inl t))) h) g.1, zXc_Q hq (zEQ_m (fun _ _ t => Or.inl t) h) (zEQ_m (fun _ _ t => Or.inr (Or.inr (Or.inr (Or.inl t)))) h) (zEQ_m (fun _ _ t => Or.inr (Or.inr (Or.inr (Or.inr (Or.inl t))))) h) g.2⟩
theorem zMR_Q {p q : pm_H} {z : zPar} (h : zEQ tM p q) (g : zMR p z) : zMR q z := by
  obtain ⟨⟨R, C, rk, sn, sk⟩, ⟨cn, cd, cm, cdm⟩, ⟨F, F2, P, G, nx, u, fl, hn, ch⟩, ⟨v, w, sv, svm⟩, kp, kc⟩ := z
  exact ⟨zKM_Q h g.1, zMe_Q h g.2⟩
theorem zRM {a k : Nat} (h : tM a k) : tRR a k := Or.inr (Or.inr (Or.inr (Or.inr (Or.inr h))))
/-- all cells of the relation as before -/
theorem xRE_Q {n : Nat} {z : zPar} {p q : pm_H} {m : Int} {w0 : Nat} (hq : xH xX kK m w0 q) (hE : xLE (n + 1) q) (h : zEQ tPP p q) (g : xRE n z p) : xRE (n + 1) z q := by
  have hR : zEQ tRR p q := zEQ_m (fun a k t => by
    rcases t with t | t | t | t | t | t
    · exact Or.inl t
    · exact Or.inr (Or.inl t)
    · exact Or.inr (Or.inr (Or.inl t))
    · exact Or.inr (Or.inr (Or.inr (Or.inl t)))
    · exact Or.inr (Or.inr (Or.inr (Or.inr (Or.inl t))))
    · exact Or.inr (Or.inr (Or.inr (Or.inr (Or.inr (Or.inl t)))))) h
  exact ⟨hE, zPP_le g.2.1, ⟨zCR_Q hq hR g.2.2.1.1, zCc_Q (zEQ_m (fun a k t => Or.inr (Or.inr (Or.inr (Or.inr (Or.inr (Or.inr t)))))) h) g.2.2.1.2⟩, zMR_Q (zEQ_m (fun _ _ t => zRM t) hR) g.2.2.2⟩
/-! looks -/
theorem zvR1 : zAR.all (fun i => xmemN xgA_G19 i) = true := by decide +kernel
theorem zvR2 : zFR.all (fun p => xmemP xgF_G19 p.1 p.2) = true := by decide +kernel
def xRc (j : Nat) (as : List Value) (Q : Value → Prop) : Prop := ∀ n, n ≤ 512 → ∀ z ph, xH xX kK (xLm n) 0 ph → xRE n z ph → ∃ v ph', pm_Rd kK false 600 j (.ref 0 :: as) ph (some v, ph', 0, 0) ∧ Q v ∧ xH xX kK (xLm n) 0 ph' ∧ xRE n z ph'
def xRm (j : Nat) (as : List Value) (Q : Value → Prop) : Prop := ∀ n, n ≤ 512 → ∀ z ph, xH xX kK (xLm n) 0 ph → xRE n z ph → ∃ v ph', pm_Rd kK false 600 j (.ref 170 :: as) ph (some v, ph', 0, 0) ∧ Q v ∧ xH xX kK (xLm (n + 1)) 0 ph' ∧ xRE (n + 1) z ph'
def xRs (j1 j2 : Nat) (as : List Value) (Q : Value → Value → Prop) : Prop := ∀ n, n ≤ 512 → ∀ ph, xRI n ph → ∃ v1 v2 ph1 ph2, ((∃ f, pm_at ph 0 = some (.inr (12, f))) ∧ ∃ f, pm_at ph1 170 = some (.inr (13, f))) ∧ pm_Rd kK false 600 j1 (.ref 0 :: as) ph (some v1, ph1, 0, 0) ∧ pm_Rd kK false 600 j2 (.ref 170 :: as) ph1 (some v2, ph2, 0, 0) ∧ Q v1 v2 ∧ xRI (n + 1) ph2
theorem xRcls {d j : Nat} {gA : List Nat} {gF : List (Nat × Nat)} {pre : List xh} {res : Option xh} {fq : List (Nat × xh)} {as : List Value} {Q : Value → Prop} (hle : ∀ n, xHE xX gA gF (xLE n)) (s1 : zAR.all (fun i => xmemN gA i) = true) (s2 : zFR.all (fun p => xmemP gF p.1 p.2) = true) (s3 : (xmemN gA 51 && xmemN gA 52 && xmemP gF 48 4) = true) (hm : ∀ {E : pm_H → Prop}, xHE xX gA gF E → xPC E → xcon xX kK E d j pre [] 0 res fq) (hd : d ≤ 600) (hv : ∀ m, xhV xX m (.ref 0 :: as) pre) (hr : ∀ m v, xhR xX m v res → ∃ u, v = some u ∧ Q u) : xRc j as Q := fun n hn z ph hP hR => by
  obtain ⟨s34, s5⟩ := Bool.and_eq_true_iff.mp s3
  obtain ⟨s3, s4⟩ := Bool.and_eq_true_iff.mp s34
  have h4 := zCR_4 hR.2.2.1.1
  obtain ⟨v0, ph', a, b, c, e, -⟩ := hm (E := fun p => (xLE n p ∧ xSame xX zAR zFR ph p) ∧ zqC p z.1.1 z.1.2.1 z.1.2.2.1) (xHE_and (xHE_and (hle n) (xHE_sub s1 s2 xHE_slf)) (zqC_G s3 s4 s5)) (xPC_F (xLE_G19 n) hP zvR1 zvR2 zbR zckR (fun _ _ t => Or.inl t) (fun _ _ t => Or.inr (Or.inr (Or.inr (Or.inr (Or.inl t))))) h4 (zCR_l hR.2.2.1.1)) 600 hd (xLm n) (xLm_le (by omega)) xLm_0 _ ph (hv _) (fun _ _ h => absurd h List.not_mem_nil) hP ⟨⟨hR.1, xSame_rf⟩, zqC_x hP hR.2.2.1.2⟩
  obtain ⟨u, rfl, q⟩ := hr _ _ e
  have hq := zEQ_R hP b c.1.2
  exact ⟨u, ph', a, q, b, c.1.1, hR.2.1, ⟨zCR_Q b hq hR.2.2.1.1, zqC_c c.2⟩, zMR_Q (zEQ_m (fun _ _ t => zRM t) hq) hR.2.2.2⟩
theorem xRmod {d j W : Nat} {gA : List Nat} {gF : List (Nat × Nat)} {pre : List xh} {res : Option xh} {fq : List (Nat × xh)} {as : List Value} {Q : Value → Prop} (hle : ∀ n, xHE xX gA gF (xLE n)) (s1 : zAP.all (fun i => xmemN gA i) = true) (s2 : zFP.all (fun p => xmemP gF p.1 p.2) = true) (hm : ∀ (n : Nat) (E : pm_H → Prop), xHE xX gA gF E → (∀ p, E p → xLE n p) → xcon xX kK E d j pre [] W res fq) (hd : d ≤ 600) (hW : W ≤ 540) (hv : ∀ m, xhV xX m (.ref 170 :: as) pre) (hr : ∀ m v, xhR xX m v res → ∃ u, v = some u ∧ Q u) : xRm j as Q := fun n hn z ph hP hR => by
  obtain ⟨v0, ph', a, b, c, e, -⟩ := hm n (fun p => xLE n p ∧ xSame xX zAP zFP ph p) (xHE_and (hle n) (xHE_sub s1 s2 xHE_slf)) (fun _ q => q.1) 600 hd (xLm (n + 1)) (xLm_le (by omega)) (xLm_s hW) _ ph (hv _) (fun _ _ h => absurd h List.not_mem_nil) (xshift hP hW) ⟨hR.1, xSame_rf⟩
  obtain ⟨u, rfl, q⟩ := hr _ _ e
  exact ⟨u, ph', a, q, b, xRE_Q b (xLE_le c.1) (zEQ_P hP b c.2) hR⟩
theorem xRboth {j1 j2 : Nat} {as : List Value} {Q1 Q2 : Value → Prop} (hc : xRc j1 as Q1) (hm : xRm j2 as Q2) : xRs j1 j2 as (fun a b => Q1 a ∧ Q2 b) := fun n hn ph ⟨hP, z, hR⟩ => by
  obtain ⟨v1, ph1, a1, q1, h1, r1⟩ := hc n hn z ph hP hR
  obtain ⟨v2, ph2, a2, q2, h2, r2⟩ := hm n hn z ph1 h1 r1
  exact ⟨v1, v2, ph1, ph2, ⟨xat0 hP, xat170 h1⟩, a1, a2, ⟨q1, q2⟩, h2, z, r2⟩
/-! what is reckoned from the relation is the same on both sides -/
section ZQ
variable {R C sn cn cm : Nat} {rk : Nat → Bool} {sk cd cdm : Nat → Nat}
theorem zQ_val {as : Nat → Int32} (h : zQe cn cd cm cdm) : zval as cn cd = zval as cm cdm := by
  rcases h with ⟨e1, e2⟩ | ⟨e1, e2, e3, e4, e5⟩
  · rw [e1, e2]
  · subst e1 e2
    have t1 : ztp cd 1 = 1 := by
      show (if cd 0 = 3000 then ztp cd 0 else if 2000 ≤ cd 0 then ztp cd 0 - 1 else ztp cd 0 + 1) = 1
      rw [e3]
      rfl
    have t2 : ztp cd 2 = 2 := by
      show (if cd 1 = 3000 then ztp cd 1 else if 2000 ≤ cd 1 then ztp cd 1 - 1 else ztp cd 1 + 1) = 2
      rw [e4, t1]
      rfl
    have s1 : zsk as cd 1 = zup (zsk as cd 0) 0 (as 1) := by
      show (if cd 0 = 3000 then zup (zsk as cd 0) (ztp cd 0 - 1) (-(zsk as cd 0 (ztp cd 0 - 1))) else if 2000 ≤ cd 0 then zup (zsk as cd 0) (ztp cd 0 - 2) (zwk (cd 0 - 2000) (zsk as cd 0 (ztp cd 0 - 2)) (zsk as cd 0 (ztp cd 0 - 1))) else zup (zsk as cd 0) (ztp cd 0) (if 1000 ≤ cd 0 then as (cd 0 - 1000) else zn (cd 0))) = _
      rw [e3]
      rfl
    have s2 : zsk as cd 2 = zup (zup (zsk as cd 0) 0 (as 1)) 1 (as 0) := by
      show (if cd 1 = 3000 then zup (zsk as cd 1) (ztp cd 1 - 1) (-(zsk as cd 1 (ztp cd 1 - 1))) else if 2000 ≤ cd 1 then zup (zsk as cd 1) (ztp cd 1 - 2) (zwk (cd 1 - 2000) (zsk as cd 1 (ztp cd 1 - 2)) (zsk as cd 1 (ztp cd 1 - 1))) else zup (zsk as cd 1) (ztp cd 1) (if 1000 ≤ cd 1 then as (cd 1 - 1000) else zn (cd 1))) = _
      rw [e4, t1, s1]
      rfl
    show zsk as cd 3 0 = as 1 - as 0
    show (if cd 2 = 3000 then zup (zsk as cd 2) (ztp cd 2 - 1) (-(zsk as cd 2 (ztp cd 2 - 1))) else if 2000 ≤ cd 2 then zup (zsk as cd 2) (ztp cd 2 - 2) (zwk (cd 2 - 2000) (zsk as cd 2 (ztp cd 2 - 2)) (zsk as cd 2 (ztp cd 2 - 1))) else zup (zsk as cd 2) (ztp cd 2) (if 1000 ≤ cd 2 then as (cd 2 - 1000) else zn (cd 2))) 0 = _
    rw [e5, t2, s2]
    rfl
theorem zQ_Re (h : zQe cn cd cm cdm) : zRe (R, C, rk, sn, sk, cn, cd) = zRe (R, C, rk, sn, sk, cm, cdm) := by
  funext P v p br
  show zrc (zval (zas (R, C, rk, sn, sk, cn, cd) P v p br) cn cd) = zrc (zval (zas (R, C, rk, sn, sk, cm, cdm) P v p br) cm cdm)
  rw [show zas (R, C, rk, sn, sk, cn, cd) P v p br = zas (R, C, rk, sn, sk, cm, cdm) P v p br from rfl, zQ_val h]
theorem zQ_Sw (h : zQe cn cd cm cdm) : zSw (R, C, rk, sn, sk, cn, cd) = zSw (R, C, rk, sn, sk, cm, cdm) := by
  funext P v p fc br g
  show zsee C rk (v p) g fc br (zRe (R, C, rk, sn, sk, cn, cd) P v p br) = zsee C rk (v p) g fc br (zRe (R, C, rk, sn, sk, cm, cdm) P v p br)
  rw [zQ_Re h]
theorem zQ_Sv (h : zQe cn cd cm cdm) : zSv (R, C, rk, sn, sk, cn, cd) = zSv (R, C, rk, sn, sk, cm, cdm) := by
  funext P v p g
  show zSw (R, C, rk, sn, sk, cn, cd) P v p (v (8 + p)) (v (16 + p)) g = zSw (R, C, rk, sn, sk, cm, cdm) P v p (v (8 + p)) (v (16 + p)) g
  rw [zQ_Sw h]
theorem zQ_Vw (h : zQe cn cd cm cdm) : zVw (R, C, rk, sn, sk, cn, cd) = zVw (R, C, rk, sn, sk, cm, cdm) := by
  funext P v p
  show zS (zSv (R, C, rk, sn, sk, cn, cd) P v p) (R * C) = zS (zSv (R, C, rk, sn, sk, cm, cdm) P v p) (R * C)
  rw [zQ_Sv h]
theorem zQ_All (h : zQe cn cd cm cdm) : zAll (R, C, rk, sn, sk, cn, cd) = zAll (R, C, rk, sn, sk, cm, cdm) := by
  funext P v
  show zU (zVw (R, C, rk, sn, sk, cn, cd) P v) P = zU (zVw (R, C, rk, sn, sk, cm, cdm) P v) P
  rw [zQ_Vw h]
theorem zQ_Meet (h : zQe cn cd cm cdm) : zMeet (R, C, rk, sn, sk, cn, cd) = zMeet (R, C, rk, sn, sk, cm, cdm) := by
  funext P v a b
  show (zSv (R, C, rk, sn, sk, cn, cd) P v a (v b) && zSv (R, C, rk, sn, sk, cn, cd) P v b (v a)) = (zSv (R, C, rk, sn, sk, cm, cdm) P v a (v b) && zSv (R, C, rk, sn, sk, cm, cdm) P v b (v a))
  rw [zQ_Sv h]
theorem zQ_Tell (h : zQe cn cd cm cdm) : zTell (R, C, rk, sn, sk, cn, cd) = zTell (R, C, rk, sn, sk, cm, cdm) := by
  funext P v a b
  show (zNear C (v a) (v b) && zMeet (R, C, rk, sn, sk, cn, cd) P v a b) = (zNear C (v a) (v b) && zMeet (R, C, rk, sn, sk, cm, cdm) P v a b)
  rw [zQ_Meet h]
theorem zQ_Hb (h : zQe cn cd cm cdm) : zHb (R, C, rk, sn, sk, cn, cd) = zHb (R, C, rk, sn, sk, cm, cdm) := by
  funext P G v p
  show v (24 + p) ||| zNs (fun t => zb (zVw (R, C, rk, sn, sk, cn, cd) P v p) (v (32 + t))) G = v (24 + p) ||| zNs (fun t => zb (zVw (R, C, rk, sn, sk, cm, cdm) P v p) (v (32 + t))) G
  rw [zQ_Vw h]
theorem zQ_Li (h : zQe cn cd cm cdm) : zLi (R, C, rk, sn, sk, cn, cd) = zLi (R, C, rk, sn, sk, cm, cdm) := by
  funext P G v p k
  induction k with
  | zero =>
    show zHb (R, C, rk, sn, sk, cn, cd) P G v p = zHb (R, C, rk, sn, sk, cm, cdm) P G v p
    rw [zQ_Hb h]
  | succ k ih =>
    show (bif zTell (R, C, rk, sn, sk, cn, cd) P v p k then zLi (R, C, rk, sn, sk, cn, cd) P G v p k ||| v (24 + k) else zLi (R, C, rk, sn, sk, cn, cd) P G v p k) = (bif zTell (R, C, rk, sn, sk, cm, cdm) P v p k then zLi (R, C, rk, sn, sk, cm, cdm) P G v p k ||| v (24 + k) else zLi (R, C, rk, sn, sk, cm, cdm) P G v p k)
    rw [zQ_Tell h, ih]
theorem zQ_Hq (h : zQe cn cd cm cdm) : zHq (R, C, rk, sn, sk, cn, cd) = zHq (R, C, rk, sn, sk, cm, cdm) := by
  funext P G v i
  show (if 24 ≤ i ∧ i < 24 + P then zLi (R, C, rk, sn, sk, cn, cd) P G v (i - 24) P else if i = 40 then v 40 + 1 else v i) = (if 24 ≤ i ∧ i < 24 + P then zLi (R, C, rk, sn, sk, cm, cdm) P G v (i - 24) P else if i = 40 then v 40 + 1 else v i)
  rw [zQ_Li h]
theorem zQ_Hqn (h : zQe cn cd cm cdm) : zHqn (R, C, rk, sn, sk, cn, cd) = zHqn (R, C, rk, sn, sk, cm, cdm) := by
  funext P G v n
  induction n with
  | zero => rfl
  | succ n ih =>
    show zHq (R, C, rk, sn, sk, cn, cd) P G (zHqn (R, C, rk, sn, sk, cn, cd) P G v n) = zHq (R, C, rk, sn, sk, cm, cdm) P G (zHqn (R, C, rk, sn, sk, cm, cdm) P G v n)
    rw [zQ_Hq h, ih]
theorem zQ_Act (h : zQe cn cd cm cdm) : zAct (R, C, rk, sn, sk, cn, cd) = zAct (R, C, rk, sn, sk, cm, cdm) := by
  funext P G v t s
  unfold zAct
  rw [zQ_Hqn h]
theorem zQ_Ar (h : zQe cn cd cm cdm) : zAr (R, C, rk, sn, sk, cn, cd) = zAr (R, C, rk, sn, sk, cm, cdm) := by
  funext P G v t i
  induction i with
  | zero => rfl
  | succ i ih =>
    show (zAr (R, C, rk, sn, sk, cn, cd) P G v t i).bind (fun v2 => zAct (R, C, rk, sn, sk, cn, cd) P G v2 t (zDp t i)) = (zAr (R, C, rk, sn, sk, cm, cdm) P G v t i).bind (fun v2 => zAct (R, C, rk, sn, sk, cm, cdm) P G v2 t (zDp t i))
    rw [zQ_Act h, ih]
theorem zQ_As2 (h : zQe cn cd cm cdm) : zAs2 (R, C, rk, sn, sk, cn, cd) = zAs2 (R, C, rk, sn, sk, cm, cdm) := by
  funext P G v t k i v2
  unfold zAs2
  rw [zQ_Ar h, zQ_Act h]
end ZQ
