/-! The calls of the law, class and reference, printed by wip/x/h_zzcase.py -/
def xLE (n : Nat) (p : pm_H) : Prop := (xV p ∧ xtie p) ∧ xINV n p
def xLm (n : Nat) : Int := ((540 * n : Nat) : Int)
def xLI (n : Nat) (ph : pm_H) : Prop := xH xX kK (xLm n) 0 ph ∧ xLE n ph
set_option maxRecDepth 6000 in
theorem xLm_le {n : Nat} (h : n ≤ 513) : xLm n ≤ 2147483646 := by unfold xLm; omega
set_option maxRecDepth 6000 in
theorem xLm_0 {n : Nat} : (0 : Int) ≤ xLm n := by unfold xLm; omega
set_option maxRecDepth 6000 in
theorem xLm_s {n : Nat} {w : Nat} (h : w ≤ 540) : (w : Int) ≤ xLm (n + 1) := by unfold xLm; omega
set_option maxRecDepth 6000 in
theorem xshift {n w : Nat} {ph : pm_H} (h : xH xX kK (xLm n) 0 ph) (hw : w ≤ 540) : xH xX kK (xLm (n + 1)) w ph := xH_map (fun x e g => by
  cases e with
  | some p => exact g
  | none => exact ⟨g.1, by have := g.2; unfold xLm at this ⊢; omega⟩) h
def kI (v : Value) : Prop := ∃ x : Int32, v = .int x
def kJ (v : Value) : Prop := ∃ x : Int64, v = .long x
set_option maxRecDepth 6000 in
theorem yri {m : Int} {v : Option Value} {p : Int × Int} (h : xhR xX m v (some (.inl p))) : ∃ u, v = some u ∧ kI u := by
  obtain ⟨u, e, x, e2, -, -⟩ := h
  exact ⟨u, e, x, e2⟩
set_option maxRecDepth 6000 in
theorem yrj {m : Int} {v : Option Value} {p : Int × Int} (h : xhR xX m v (some (.inr (.inl p)))) : ∃ u, v = some u ∧ kJ u := by
  obtain ⟨u, e, x, e2, -, -⟩ := h
  exact ⟨u, e, x, e2⟩
set_option maxRecDepth 6000 in
theorem xat0 {m : Int} {w : Nat} {ph : pm_H} (h : xH xX kK m w ph) : ∃ f, pm_at ph 0 = some (.inr (12, f)) := by
  obtain ⟨f, a, -⟩ := xO_at h (a := 0) (i := 31) rfl rfl
  exact ⟨f, a⟩
set_option maxRecDepth 6000 in
theorem xat170 {m : Int} {w : Nat} {ph : pm_H} (h : xH xX kK m w ph) : ∃ f, pm_at ph 170 = some (.inr (13, f)) := by
  obtain ⟨f, a, -⟩ := xO_at h (a := 170) (i := 0) rfl rfl
  exact ⟨f, a⟩
def xCc (j : Nat) (as : List Value) (Q : Value → Prop) : Prop := ∀ n, n ≤ 512 → ∀ ph, xLI n ph → ∃ v ph', pm_Rd kK false 600 j (.ref 0 :: as) ph (some v, ph', 0, 0) ∧ Q v ∧ xLI n ph'
def xCm (j : Nat) (as : List Value) (Q : Value → Prop) : Prop := ∀ n, n ≤ 512 → ∀ ph, xH xX kK (xLm n) 0 ph → xLE n ph → ∃ v ph', pm_Rd kK false 600 j (.ref 170 :: as) ph (some v, ph', 0, 0) ∧ Q v ∧ xLI (n + 1) ph'
def xCs (j1 j2 : Nat) (as : List Value) (Q : Value → Value → Prop) : Prop := ∀ n, n ≤ 512 → ∀ ph, xLI n ph → ∃ v1 v2 ph1 ph2, ((∃ f, pm_at ph 0 = some (.inr (12, f))) ∧ ∃ f, pm_at ph1 170 = some (.inr (13, f))) ∧ pm_Rd kK false 600 j1 (.ref 0 :: as) ph (some v1, ph1, 0, 0) ∧ pm_Rd kK false 600 j2 (.ref 170 :: as) ph1 (some v2, ph2, 0, 0) ∧ Q v1 v2 ∧ xLI (n + 1) ph2
set_option maxRecDepth 6000 in
theorem xmod {d j W : Nat} {pre : List xh} {res : Option xh} {fq : List (Nat × xh)} {as : List Value} {Q : Value → Prop} (hm : ∀ n, xcon xX kK (xLE n) d j pre [] W res fq) (hd : d ≤ 600) (hW : W ≤ 540) (hv : ∀ m, xhV xX m (.ref 170 :: as) pre) (hr : ∀ m v, xhR xX m v res → ∃ u, v = some u ∧ Q u) : xCm j as Q := fun n hn ph hP hE => by
  obtain ⟨v, ph', a, b, c, e, -⟩ := hm n 600 hd (xLm (n + 1)) (xLm_le (by omega)) (xLm_s hW) _ ph (hv _) (fun _ _ h => absurd h List.not_mem_nil) (xshift hP hW) hE
  obtain ⟨u, rfl, q⟩ := hr _ _ e
  exact ⟨u, ph', a, q, b, c.1, xINV_le (Nat.le_succ n) c.2⟩
set_option maxRecDepth 6000 in
theorem xcls {d j : Nat} {pre : List xh} {res : Option xh} {fq : List (Nat × xh)} {as : List Value} {Q : Value → Prop} (hm : ∀ n, xcon xX kK (xLE n) d j pre [] 0 res fq) (hd : d ≤ 600) (hv : ∀ m, xhV xX m (.ref 0 :: as) pre) (hr : ∀ m v, xhR xX m v res → ∃ u, v = some u ∧ Q u) : xCc j as Q := fun n hn ph hI => by
  obtain ⟨v, ph', a, b, c, e, -⟩ := hm n 600 hd (xLm n) (xLm_le (by omega)) xLm_0 _ ph (hv _) (fun _ _ h => absurd h List.not_mem_nil) hI.1 hI.2
  obtain ⟨u, rfl, q⟩ := hr _ _ e
  exact ⟨u, ph', a, q, b, c⟩
set_option maxRecDepth 6000 in
theorem xboth {j1 j2 : Nat} {as : List Value} {Q1 Q2 : Value → Prop} (hc : xCc j1 as Q1) (hm : xCm j2 as Q2) : xCs j1 j2 as (fun a b => Q1 a ∧ Q2 b) := fun n hn ph hI => by
  obtain ⟨v1, ph1, a1, q1, h1⟩ := hc n hn ph hI
  obtain ⟨v2, ph2, a2, q2, h2⟩ := hm n hn ph1 h1.1 h1.2
  exact ⟨v1, v2, ph1, ph2, ⟨xat0 hI.1, xat170 h1.1⟩, a1, a2, ⟨q1, q2⟩, h2⟩
/-- the text is read to its end: its size is 0 -/
def yz1 (p : pm_H) : Prop := xget p 1 1 = some (.int 0)
set_option maxRecDepth 6000 in
theorem yz1_VS : xHE xX xgA_VR xgF_VS yz1 := xHE_gA (i := 44) rfl rfl
set_option maxRecDepth 6000 in
theorem yz1_VU : xHE xX xgA_VT xgF_VU yz1 := xHE_gA (i := 44) rfl rfl
def xCr (j : Nat) : Prop := ∀ n, n ≤ 512 → ∀ ph, xH xX kK (xLm n) 0 ph → xV ph → xINV n ph → yz1 ph → ∃ v ph', pm_Rd kK false 600 j [.ref 170] ph (v, ph', 0, 0) ∧ ∃ r : Int32, v = some (.int r) ∧ xH xX kK (xLm (n + 1)) 0 ph' ∧ xV ph' ∧ xINV (n + 1) ph' ∧ yz1 ph' ∧ xget ph' 170 14 = some (.int 0)
set_option maxRecDepth 6000 in
theorem xrdr {d j1 j2 : Nat} {gA : List Nat} {gF : List (Nat × Nat)} (hg : ∀ n, xHE xX gA gF (fun p => xV p ∧ xINV n p)) {res : Option xh} (hc : ∀ {E : pm_H → Prop}, xHE xX gA gF E → xcon xX kK E d j1 [.inr (.inr (.inl 31))] [] 0 res [(4097, .inl (Int.ofNat 0, Int.ofNat 0))]) (hd : d ≤ 600) (hr : ∀ m v, xhR xX m v res → ∃ u, v = some u ∧ kI u) (hm : xCr j2) : xCs j1 j2 [] (fun a b => kI a ∧ kI b) := fun n hn ph hI => by
  obtain ⟨v, ph1, a, b, c, e, f⟩ := hc (E := fun p => xV p ∧ xINV n p) (hg n) 600 hd (xLm n) (xLm_le (by omega)) xLm_0 [.ref 0] ph ⟨xaRi rfl (by decide), trivial⟩ (fun _ _ h => absurd h List.not_mem_nil) hI.1 ⟨hI.2.1.1, hI.2.2⟩
  obtain ⟨u, rfl, q⟩ := hr _ _ e
  obtain ⟨x, g1, g2, g3⟩ := xhF_getA (a := 1) (c := 1) f (List.Mem.head _) rfl rfl
  obtain rfl := xint0 g2 g3
  obtain ⟨v2, ph2, a2, r, rfl, b1, b2, b3, b4, b5⟩ := hm n hn ph1 b c.1 c.2 g1
  exact ⟨u, .int r, ph1, ph2, ⟨xat0 hI.1, xat170 b⟩, a, a2, ⟨q, r, rfl⟩, b1, ⟨b2, 0, b4, b5, fun i hi => by
    have h0 : (0 : Int32).toInt = 0 := by decide
    omega⟩, b3⟩
set_option maxRecDepth 6000 in
/-- view keeps what its own guard keeps -/
theorem xPC_of {E : pm_H → Prop} (h : xHE xX xgA_G19 xgF_G19 E) : xPC E := fun P hP => xn_48_0 (xHE_and h hP)
set_option maxRecDepth 6000 in
theorem xrdrC {d j1 j2 : Nat} {gA : List Nat} {gF : List (Nat × Nat)} (hg : ∀ n, xHE xX gA gF (fun p => xV p ∧ xINV n p)) (hg2 : ∀ n, xPC (fun p => xV p ∧ xINV n p)) {res : Option xh} (hc : ∀ {E : pm_H → Prop}, xHE xX gA gF E → xPC E → xcon xX kK E d j1 [.inr (.inr (.inl 31))] [] 0 res [(4097, .inl (Int.ofNat 0, Int.ofNat 0))]) (hd : d ≤ 600) (hr : ∀ m v, xhR xX m v res → ∃ u, v = some u ∧ kI u) (hm : xCr j2) : xCs j1 j2 [] (fun a b => kI a ∧ kI b) := fun n hn ph hI => by
  obtain ⟨v, ph1, a, b, c, e, f⟩ := hc (E := fun p => xV p ∧ xINV n p) (hg n) (hg2 n) 600 hd (xLm n) (xLm_le (by omega)) xLm_0 [.ref 0] ph ⟨xaRi rfl (by decide), trivial⟩ (fun _ _ h => absurd h List.not_mem_nil) hI.1 ⟨hI.2.1.1, hI.2.2⟩
  obtain ⟨u, rfl, q⟩ := hr _ _ e
  obtain ⟨x, g1, g2, g3⟩ := xhF_getA (a := 1) (c := 1) f (List.Mem.head _) rfl rfl
  obtain rfl := xint0 g2 g3
  obtain ⟨v2, ph2, a2, r, rfl, b1, b2, b3, b4, b5⟩ := hm n hn ph1 b c.1 c.2 g1
  exact ⟨u, .int r, ph1, ph2, ⟨xat0 hI.1, xat170 b⟩, a, a2, ⟨q, r, rfl⟩, b1, ⟨b2, 0, b4, b5, fun i hi => by
    have h0 : (0 : Int32).toInt = 0 := by decide
    omega⟩, b3⟩
set_option maxRecDepth 6000 in
theorem xLE_G99 (n : Nat) : xHE xX xgA_G99 xgF_G99 (xLE n) := xHE_and (xHE_and (xHE_sub (by decide +kernel) (by decide +kernel) xHEV) (xHE_sub (by decide +kernel) (by decide +kernel) xHE_ti)) (xHE_sub (by decide +kernel) (by decide +kernel) (xHEI n))
set_option maxRecDepth 6000 in
theorem xLE_G98 (n : Nat) : xHE xX xgA_G98 xgF_G98 (xLE n) := xHE_and (xHE_and (xHE_sub (by decide +kernel) (by decide +kernel) xHEV) (xHE_sub (by decide +kernel) (by decide +kernel) xHE_ti)) (xHE_sub (by decide +kernel) (by decide +kernel) (xHEI n))
set_option maxRecDepth 6000 in
theorem xLE_G96 (n : Nat) : xHE xX xgA_G96 xgF_G96 (xLE n) := xHE_and (xHE_and (xHE_sub (by decide +kernel) (by decide +kernel) xHEV) (xHE_sub (by decide +kernel) (by decide +kernel) xHE_ti)) (xHE_sub (by decide +kernel) (by decide +kernel) (xHEI n))
set_option maxRecDepth 6000 in
theorem xLE_G95 (n : Nat) : xHE xX xgA_G95 xgF_G95 (xLE n) := xHE_and (xHE_and (xHE_sub (by decide +kernel) (by decide +kernel) xHEV) (xHE_sub (by decide +kernel) (by decide +kernel) xHE_ti)) (xHE_sub (by decide +kernel) (by decide +kernel) (xHEI n))
set_option maxRecDepth 6000 in
theorem xLE_G94 (n : Nat) : xHE xX xgA_G94 xgF_G94 (xLE n) := xHE_and (xHE_and (xHE_sub (by decide +kernel) (by decide +kernel) xHEV) (xHE_sub (by decide +kernel) (by decide +kernel) xHE_ti)) (xHE_sub (by decide +kernel) (by decide +kernel) (xHEI n))
set_option maxRecDepth 6000 in
theorem xLE_G9 (n : Nat) : xHE xX xgA_G9 xgF_G9 (xLE n) := xHE_and (xHE_and (xHE_sub (by decide +kernel) (by decide +kernel) xHEV) (xHE_sub (by decide +kernel) (by decide +kernel) xHE_ti)) (xHE_sub (by decide +kernel) (by decide +kernel) (xHEI n))
set_option maxRecDepth 6000 in
theorem xLE_G8 (n : Nat) : xHE xX xgA_G8 xgF_G8 (xLE n) := xHE_and (xHE_and (xHE_sub (by decide +kernel) (by decide +kernel) xHEV) (xHE_sub (by decide +kernel) (by decide +kernel) xHE_ti)) (xHE_sub (by decide +kernel) (by decide +kernel) (xHEI n))
set_option maxRecDepth 6000 in
theorem xLE_G76 (n : Nat) : xHE xX xgA_G76 xgF_G76 (xLE n) := xHE_and (xHE_and (xHE_sub (by decide +kernel) (by decide +kernel) xHEV) (xHE_sub (by decide +kernel) (by decide +kernel) xHE_ti)) (xHE_sub (by decide +kernel) (by decide +kernel) (xHEI n))
set_option maxRecDepth 6000 in
theorem xLE_G57 (n : Nat) : xHE xX xgA_G57 xgF_G57 (xLE n) := xHE_and (xHE_and (xHE_sub (by decide +kernel) (by decide +kernel) xHEV) (xHE_sub (by decide +kernel) (by decide +kernel) xHE_ti)) (xHE_sub (by decide +kernel) (by decide +kernel) (xHEI n))
set_option maxRecDepth 6000 in
theorem xLE_G54 (n : Nat) : xHE xX xgA_G54 xgF_G54 (xLE n) := xHE_and (xHE_and (xHE_sub (by decide +kernel) (by decide +kernel) xHEV) (xHE_sub (by decide +kernel) (by decide +kernel) xHE_ti)) (xHE_sub (by decide +kernel) (by decide +kernel) (xHEI n))
set_option maxRecDepth 6000 in
theorem xLE_G49 (n : Nat) : xHE xX xgA_G49 xgF_G49 (xLE n) := xHE_and (xHE_and (xHE_sub (by decide +kernel) (by decide +kernel) xHEV) (xHE_sub (by decide +kernel) (by decide +kernel) xHE_ti)) (xHE_sub (by decide +kernel) (by decide +kernel) (xHEI n))
set_option maxRecDepth 6000 in
theorem xLE_G47 (n : Nat) : xHE xX xgA_G47 xgF_G47 (xLE n) := xHE_and (xHE_and (xHE_sub (by decide +kernel) (by decide +kernel) xHEV) (xHE_sub (by decide +kernel) (by decide +kernel) xHE_ti)) (xHE_sub (by decide +kernel) (by decide +kernel) (xHEI n))
set_option maxRecDepth 6000 in
theorem xLE_G46 (n : Nat) : xHE xX xgA_G46 xgF_G46 (xLE n) := xHE_and (xHE_and (xHE_sub (by decide +kernel) (by decide +kernel) xHEV) (xHE_sub (by decide +kernel) (by decide +kernel) xHE_ti)) (xHE_sub (by decide +kernel) (by decide +kernel) (xHEI n))
set_option maxRecDepth 6000 in
theorem xLE_G44 (n : Nat) : xHE xX xgA_G44 xgF_G44 (xLE n) := xHE_and (xHE_and (xHE_sub (by decide +kernel) (by decide +kernel) xHEV) (xHE_sub (by decide +kernel) (by decide +kernel) xHE_ti)) (xHE_sub (by decide +kernel) (by decide +kernel) (xHEI n))
set_option maxRecDepth 6000 in
theorem xLE_G42 (n : Nat) : xHE xX xgA_G42 xgF_G42 (xLE n) := xHE_and (xHE_and (xHE_sub (by decide +kernel) (by decide +kernel) xHEV) (xHE_sub (by decide +kernel) (by decide +kernel) xHE_ti)) (xHE_sub (by decide +kernel) (by decide +kernel) (xHEI n))
set_option maxRecDepth 6000 in
theorem xLE_G39 (n : Nat) : xHE xX xgA_G39 xgF_G39 (xLE n) := xHE_and (xHE_and (xHE_sub (by decide +kernel) (by decide +kernel) xHEV) (xHE_sub (by decide +kernel) (by decide +kernel) xHE_ti)) (xHE_sub (by decide +kernel) (by decide +kernel) (xHEI n))
set_option maxRecDepth 6000 in
theorem xLE_G33 (n : Nat) : xHE xX xgA_G33 xgF_G33 (xLE n) := xHE_and (xHE_and (xHE_sub (by decide +kernel) (by decide +kernel) xHEV) (xHE_sub (by decide +kernel) (by decide +kernel) xHE_ti)) (xHE_sub (by decide +kernel) (by decide +kernel) (xHEI n))
set_option maxRecDepth 6000 in
theorem xLE_G19 (n : Nat) : xHE xX xgA_G19 xgF_G19 (xLE n) := xHE_and (xHE_and (xHE_sub (by decide +kernel) (by decide +kernel) xHEV) (xHE_sub (by decide +kernel) (by decide +kernel) xHE_ti)) (xHE_sub (by decide +kernel) (by decide +kernel) (xHEI n))
set_option maxRecDepth 6000 in
theorem xLE_G17 (n : Nat) : xHE xX xgA_G17 xgF_G17 (xLE n) := xHE_and (xHE_and (xHE_sub (by decide +kernel) (by decide +kernel) xHEV) (xHE_sub (by decide +kernel) (by decide +kernel) xHE_ti)) (xHE_sub (by decide +kernel) (by decide +kernel) (xHEI n))
set_option maxRecDepth 6000 in
theorem xLE_G16 (n : Nat) : xHE xX xgA_G16 xgF_G16 (xLE n) := xHE_and (xHE_and (xHE_sub (by decide +kernel) (by decide +kernel) xHEV) (xHE_sub (by decide +kernel) (by decide +kernel) xHE_ti)) (xHE_sub (by decide +kernel) (by decide +kernel) (xHEI n))
set_option maxRecDepth 6000 in
theorem xLE_G13 (n : Nat) : xHE xX xgA_G13 xgF_G13 (xLE n) := xHE_and (xHE_and (xHE_sub (by decide +kernel) (by decide +kernel) xHEV) (xHE_sub (by decide +kernel) (by decide +kernel) xHE_ti)) (xHE_sub (by decide +kernel) (by decide +kernel) (xHEI n))
set_option maxRecDepth 6000 in
theorem xLE_G103 (n : Nat) : xHE xX xgA_G103 xgF_G103 (xLE n) := xHE_and (xHE_and (xHE_sub (by decide +kernel) (by decide +kernel) xHEV) (xHE_sub (by decide +kernel) (by decide +kernel) xHE_ti)) (xHE_sub (by decide +kernel) (by decide +kernel) (xHEI n))
set_option maxRecDepth 6000 in
theorem xLE_G100 (n : Nat) : xHE xX xgA_G100 xgF_G100 (xLE n) := xHE_and (xHE_and (xHE_sub (by decide +kernel) (by decide +kernel) xHEV) (xHE_sub (by decide +kernel) (by decide +kernel) xHE_ti)) (xHE_sub (by decide +kernel) (by decide +kernel) (xHEI n))
set_option maxRecDepth 6000 in
theorem xLE_C (n : Nat) : xPC (xLE n) := xPC_of (xLE_G19 n)
set_option maxRecDepth 6000 in
theorem xLE_S (n : Nat) : xSt (xLE n) := xSt_and (xSt_HE (xHE_and xHEVR xHE_tie) rfl (fun _ => rfl)) (xINV_St n)
set_option maxRecDepth 6000 in
theorem xcs_sign {x : Int32} : xCs 122 193 [.int x] (fun a b => kI a ∧ a = b) := fun n hn ph hI => by
  obtain ⟨r, ph1, ph2, a1, a2, b1, b2, c⟩ := xsignE (n := n) (xLm_le (by omega)) xLm_0 (D := 600) (by decide) (y := x) hI.1 hI.2
  exact ⟨.int r, .int r, ph1, ph2, ⟨xat0 hI.1, xat170 b1⟩, a1, a2, ⟨⟨r, rfl⟩, rfl⟩, xshift b2 (by decide), c.1, xINV_le (Nat.le_succ n) c.2⟩
set_option maxRecDepth 6000 in
theorem xcs_endE {x : Int32} : xCs 123 194 [.int x] (fun a b => kI a ∧ a = b) := fun n hn ph hI => by
  obtain ⟨r, ph1, ph2, a1, a2, b1, b2, c⟩ := xendE (n := n) (xLm_le (by omega)) xLm_0 (D := 600) (by decide) (y := x) hI.1 hI.2
  exact ⟨.int r, .int r, ph1, ph2, ⟨xat0 hI.1, xat170 b1⟩, a1, a2, ⟨⟨r, rfl⟩, rfl⟩, xshift b2 (by decide), c.1, xINV_le (Nat.le_succ n) c.2⟩
set_option maxRecDepth 6000 in
theorem xcs_end {x : Int32} : xCs 123 194 [.int x] (fun a b => kI a ∧ kI b) := fun n hn ph hI => by
  obtain ⟨v1, v2, p1, p2, a, b, c, ⟨⟨r, rfl⟩, rfl⟩, e⟩ := xcs_endE (x := x) n hn ph hI
  exact ⟨_, _, p1, p2, a, b, c, ⟨⟨r, rfl⟩, r, rfl⟩, e⟩
set_option maxRecDepth 6000 in
theorem xcr_valley : xCr 202 := fun n hn ph hP hV hI hz => by
  obtain ⟨v, ph', a, r, e, b1, b2, b3, b4, b5⟩ := xw_valley (n := n) (R := yz1) yz1_VU (xLm_le (by omega)) xLm_0 (D := 600) (by omega) (by decide) (xshift hP (by decide)) hV hI hz
  exact ⟨v, ph', a, r, e, b1, b2, b3, b4, b5⟩
set_option maxRecDepth 6000 in
theorem xcs_valley : xCs 124 202 [] (fun a b => kI a ∧ kI b) := xrdr (gA := xgA_G34) (gF := xgF_G34) (fun n => xHE_and (xHE_sub (by decide +kernel) (by decide +kernel) xHEV) (xHE_sub (by decide +kernel) (by decide +kernel) (xHEI n))) (fun h => xn_124_0 h) (by decide) (fun _ _ h => yri h) xcr_valley
set_option maxRecDepth 6000 in
theorem xcr_people : xCr 208 := fun n hn ph hP hV hI hz => by
  obtain ⟨v, ph', a, r, e, b1, b2, b3, b4, b5⟩ := xw_people (n := n) (R := yz1) yz1_VU (xLm_le (by omega)) xLm_0 (D := 600) (by omega) (by decide) (xshift hP (by decide)) hV hI hz
  exact ⟨v, ph', a, r, e, b1, b2, b3, b4, b5⟩
set_option maxRecDepth 6000 in
theorem xcs_people : xCs 125 208 [] (fun a b => kI a ∧ kI b) := xrdr (gA := xgA_G35) (gF := xgF_G35) (fun n => xHE_and (xHE_sub (by decide +kernel) (by decide +kernel) xHEV) (xHE_sub (by decide +kernel) (by decide +kernel) (xHEI n))) (fun h => xn_125_0 h) (by decide) (fun _ _ h => yri h) xcr_people
set_option maxRecDepth 6000 in
theorem xcr_things : xCr 209 := fun n hn ph hP hV hI hz => by
  obtain ⟨v, ph', a, r, e, b1, b2, b3, b4, b5⟩ := xw_things (n := n) (R := yz1) yz1_VU (xLm_le (by omega)) xLm_0 (D := 600) (by omega) (by decide) (xshift hP (by decide)) hV hI hz
  exact ⟨v, ph', a, r, e, b1, b2, b3, b4, b5⟩
set_option maxRecDepth 6000 in
theorem xcs_things : xCs 126 209 [] (fun a b => kI a ∧ kI b) := xrdr (gA := xgA_G36) (gF := xgF_G36) (fun n => xHE_and (xHE_sub (by decide +kernel) (by decide +kernel) xHEV) (xHE_sub (by decide +kernel) (by decide +kernel) (xHEI n))) (fun h => xn_126_0 h) (by decide) (fun _ _ h => yri h) xcr_things
set_option maxRecDepth 6000 in
theorem xcr_light : xCr 210 := fun n hn ph hP hV hI hz => by
  obtain ⟨v, ph', a, b, c, e, f⟩ := xn_210_0 (E := fun p => (xV p ∧ yz1 p) ∧ xINV n p) (xHE_and (xHE_and (xHE_sub (by decide +kernel) (by decide +kernel) xHEV) (xHE_gA (i := 44) rfl rfl)) (xHE_sub (by decide +kernel) (by decide +kernel) (xHEI n))) 600 (by decide) (xLm (n + 1)) (xLm_le (by omega)) (xLm_0) [.ref 170] ph ⟨xaRi rfl (by decide), trivial⟩ (fun _ _ h => absurd h List.not_mem_nil) (xshift hP (by decide)) ⟨⟨hV, hz⟩, hI⟩
  obtain ⟨u, rfl, r, rfl⟩ := yri e
  obtain ⟨x, g1, g2, g3⟩ := xhF_getA (a := 170) (c := 14) f (List.Mem.head _) rfl rfl
  obtain rfl := xint0 g2 g3
  exact ⟨_, ph', a, r, rfl, b, c.1.1, xINV_le (Nat.le_succ n) c.2, c.1.2, g1⟩
set_option maxRecDepth 6000 in
theorem xcs_light : xCs 127 210 [] (fun a b => kI a ∧ kI b) := xrdr (gA := xgA_G37) (gF := xgF_G37) (fun n => xHE_and (xHE_sub (by decide +kernel) (by decide +kernel) xHEV) (xHE_sub (by decide +kernel) (by decide +kernel) (xHEI n))) (fun h => xn_127_0 h) (by decide) (fun _ _ h => yri h) xcr_light
set_option maxRecDepth 6000 in
theorem xcr_rule : xCr 217 := fun n hn ph hP hV hI hz => by
  obtain ⟨v, ph', a, z, e, -, b, c, dd, e14, e15, e16⟩ := xrule (E := fun p => yz1 p ∧ xINV n p) (xHE_and (xHE_gA (i := 44) rfl rfl) (xHE_sub (by decide +kernel) (by decide +kernel) (xHEI n))) (xLm_le (n := n + 1) (by omega)) xLm_0 (D := 600) (by decide) (xshift hP (by decide)) ⟨hz, hI⟩ hV
  obtain rfl := xint0 (x := e14) (by rw [e16]; exact Int.le_refl _) (by rw [e16]; exact Int.le_refl _)
  exact ⟨v, ph', a, z, e, b, dd, xINV_le (Nat.le_succ n) c.2, c.1, e15⟩
set_option maxRecDepth 6000 in
theorem xcs_rule : xCs 128 217 [] (fun a b => kI a ∧ kI b) := xrdr (gA := xgA_G38) (gF := xgF_G38) (fun n => xHE_and (xHE_sub (by decide +kernel) (by decide +kernel) xHEV) (xHE_sub (by decide +kernel) (by decide +kernel) (xHEI n))) (fun h => xn_128_0 h) (by decide) (fun _ _ h => yri h) xcr_rule
set_option maxRecDepth 6000 in
theorem xcm_person {x y : Int32} : xCm 235 [.int x, .int y] kI := xmod (fun n => xn_235_0 (xLE_G57 n) (fun _ q => q.1.1)) (by decide) (by decide) (fun _ => ⟨xaRi rfl (by decide), xaT, xaT, trivial⟩) (fun _ _ h => yri h)
set_option maxRecDepth 6000 in
theorem xcm_thing {x y : Int32} : xCm 236 [.int x, .int y] kI := xmod (fun n => xn_236_0 (xLE_G57 n) (fun _ q => q.1.1) (fun _ q => xINV_PG q.2)) (by decide) (by decide) (fun _ => ⟨xaRi rfl (by decide), xaT, xaT, trivial⟩) (fun _ _ h => yri h)
set_option maxRecDepth 6000 in
theorem xcm_sheet {x y z w : Int32} : xCm 237 [.int x, .int y, .int z, .int w] kI := xmod (fun n => xn_237_0 (xLE_G76 n)) (by decide) (by decide) (fun _ => ⟨xaRi rfl (by decide), xaT, xaT, xaT, xaT, trivial⟩) (fun _ _ h => yri h)
set_option maxRecDepth 6000 in
theorem xcs_sheet {x y z w : Int32} : xCs 131 237 [.int x, .int y, .int z, .int w] (fun a b => kI a ∧ kI b) := xboth (xcls (fun n => xn_131_0 (xLE_G39 n)) (by decide) (fun _ => ⟨xaRi rfl (by decide), xaT, xaT, xaT, xaT, trivial⟩) (fun _ _ h => yri h)) xcm_sheet
set_option maxRecDepth 6000 in
theorem xcm_hours {x : Int32} : xCm 248 [.int x] kI := fun n hn ph hP hE => by
  obtain ⟨v, ph', a, r, rfl, b, c, dd, e⟩ := xw_hours (n := n) (R := xtie) (p0 := x) xHE_tie (xLm_le (by omega)) xLm_0 (xLm_s (w := 99) (by decide)) (D := 600) (by decide) (xshift hP (by decide)) hE.1.1 hE.2 hE.1.2
  exact ⟨_, ph', a, ⟨r, rfl⟩, b, ⟨c, e⟩, xINV_le (Nat.le_succ n) dd⟩
set_option maxRecDepth 6000 in
theorem xcs_hours {x : Int32} : xCs 133 248 [.int x] (fun a b => kI a ∧ kI b) := xboth (xcls (fun n => xn_133_0 (xLE_G42 n) (xLE_C n)) (by decide) (fun _ => ⟨xaRi rfl (by decide), xaT, trivial⟩) (fun _ _ h => yri h)) xcm_hours
set_option maxRecDepth 6000 in
theorem xcm_faces {x y : Int32} : xCm 249 [.int x, .int y] kI := fun n hn ph hP hE => by
  obtain ⟨v, ph', a, r, rfl, b, c, dd, e⟩ := xw_faces (n := n) (p := x) (q := y) (R := xtie) xHE_tie (xLm_le (by omega)) xLm_0 (D := 600) (by decide) (xshift hP (by decide)) hE.1.1 hE.2 hE.1.2
  exact ⟨_, ph', a, ⟨r, rfl⟩, b, ⟨c, e⟩, xINV_le (Nat.le_succ n) dd⟩
set_option maxRecDepth 6000 in
theorem xcs_faces {x y : Int32} : xCs 134 249 [.int x, .int y] (fun a b => kI a ∧ kI b) := xboth (xcls (fun n => xn_134_0 (xLE_G44 n)) (by decide) (fun _ => ⟨xaRi rfl (by decide), xaT, xaT, trivial⟩) (fun _ _ h => yri h)) xcm_faces
set_option maxRecDepth 6000 in
theorem xcm_steps {x y : Int32} : xCm 250 [.int x, .int y] kI := fun n hn ph hP hE => by
  obtain ⟨v, ph', a, r, rfl, b, c, dd, e⟩ := xw_steps (n := n) (p := x) (q := y) (R := xtie) xHE_tie (xLm_le (by omega)) xLm_0 (D := 600) (by decide) (xshift hP (by decide)) hE.1.1 hE.2 hE.1.2
  exact ⟨_, ph', a, ⟨r, rfl⟩, b, ⟨c, e⟩, xINV_le (Nat.le_succ n) dd⟩
set_option maxRecDepth 6000 in
theorem xcs_steps {x y : Int32} : xCs 135 250 [.int x, .int y] (fun a b => kI a ∧ kI b) := xboth (xcls (fun n => xn_135_0 (xLE_G46 n)) (by decide) (fun _ => ⟨xaRi rfl (by decide), xaT, xaT, trivial⟩) (fun _ _ h => yri h)) xcm_steps
set_option maxRecDepth 6000 in
theorem xcm_trims {x y : Int32} : xCm 251 [.int x, .int y] kI := fun n hn ph hP hE => by
  obtain ⟨v, ph', a, r, rfl, b, c, dd, e⟩ := xw_trims (n := n) (p := x) (q := y) (R := xtie) xHE_tie (xLm_le (by omega)) xLm_0 (D := 600) (by decide) (xshift hP (by decide)) hE.1.1 hE.2 hE.1.2
  exact ⟨_, ph', a, ⟨r, rfl⟩, b, ⟨c, e⟩, xINV_le (Nat.le_succ n) dd⟩
set_option maxRecDepth 6000 in
theorem xcs_trims {x y : Int32} : xCs 136 251 [.int x, .int y] (fun a b => kI a ∧ kI b) := xboth (xcls (fun n => xn_136_0 (xLE_G47 n)) (by decide) (fun _ => ⟨xaRi rfl (by decide), xaT, xaT, trivial⟩) (fun _ _ h => yri h)) xcm_trims
set_option maxRecDepth 6000 in
theorem xcm_puts {x y : Int32} : xCm 252 [.int x, .int y] kI := fun n hn ph hP hE => by
  obtain ⟨v, ph', a, r, rfl, b, c, dd, e⟩ := xw_puts (n := n) (p := x) (q := y) (R := xtie) xHE_tie (xLm_le (by omega)) xLm_0 (D := 600) (by decide) (xshift hP (by decide)) hE.1.1 hE.2 hE.1.2
  exact ⟨_, ph', a, ⟨r, rfl⟩, b, ⟨c, e⟩, xINV_le (Nat.le_succ n) dd⟩
set_option maxRecDepth 6000 in
theorem xcs_puts {x y : Int32} : xCs 137 252 [.int x, .int y] (fun a b => kI a ∧ kI b) := xboth (xcls (fun n => xn_137_0 (xLE_G49 n)) (by decide) (fun _ => ⟨xaRi rfl (by decide), xaT, xaT, trivial⟩) (fun _ _ h => yri h)) xcm_puts
set_option maxRecDepth 6000 in
theorem xcr_day : xCr 255 := fun n hn ph hP hV hI hz => by
  obtain ⟨v, ph', a, r, e, b1, b2, b3, b4, b5⟩ := xw_day (n := n) (R := yz1) yz1_VS (xLm_le (by omega)) xLm_0 (xLm_s (w := 540) (by decide)) (D := 600) (by decide) (xshift hP (by decide)) hV hI hz
  exact ⟨v, ph', a, r, e, b1, b2, xINV_le (Nat.le_succ n) b3, b4, b5⟩
set_option maxRecDepth 6000 in
theorem xcs_day : xCs 138 255 [] (fun a b => kI a ∧ kI b) := xrdrC (gA := xgA_G51) (gF := xgF_G51) (fun n => xHE_and (xHE_sub (by decide +kernel) (by decide +kernel) xHEV) (xHE_sub (by decide +kernel) (by decide +kernel) (xHEI n))) (fun n => xPC_of (xHE_and (xHE_sub (by decide +kernel) (by decide +kernel) xHEV) (xHE_sub (by decide +kernel) (by decide +kernel) (xHEI n)))) (fun h hC => xn_138_0 h hC) (by decide) (fun _ _ h => yri h) xcr_day
set_option maxRecDepth 6000 in
theorem xcm_undo : xCm 241 [] kI := fun n hn ph hP hE => by
  obtain ⟨v, ph', a, r, rfl, b, c, dd, e⟩ := xundo (n := n) (R := xtie) xHE_tie (xLm_le (by omega)) xLm_0 (D := 599) (xshift hP (by decide)) hE.1.1 hE.2 hE.1.2
  exact ⟨_, ph', a, ⟨r, rfl⟩, b, ⟨c, e⟩, xINV_le (Nat.le_succ n) dd⟩
set_option maxRecDepth 6000 in
theorem xcs_undo : xCs 139 241 [] (fun a b => kI a ∧ kI b) := xboth (xcls (fun n => xn_139_0 (xLE_G13 n)) (by decide) (fun _ => ⟨xaRi rfl (by decide), trivial⟩) (fun _ _ h => yri h)) xcm_undo
set_option maxRecDepth 6000 in
theorem xcm_sees {x : Int32} : xCm 257 [.int x] kJ := xmod (fun n => xn_257_0 (xLE_G94 n) (fun _ q => q.1.1)) (by decide) (by decide) (fun _ => ⟨xaRi rfl (by decide), xaT, trivial⟩) (fun _ _ h => yrj h)
set_option maxRecDepth 6000 in
theorem xcs_sees {x : Int32} : xCs 147 257 [.int x] (fun a b => kJ a ∧ kJ b) := xboth (xcls (fun n => xn_147_0 (xLE_G9 n) (xLE_C n)) (by decide) (fun _ => ⟨xaRi rfl (by decide), xaT, trivial⟩) (fun _ _ h => yrj h)) xcm_sees
set_option maxRecDepth 6000 in
theorem xcm_seers {x : Int32} : xCm 258 [.int x] kI := xmod (fun n => xn_258_0 (xLE_G94 n) (fun _ q => q.1.1)) (by decide) (by decide) (fun _ => ⟨xaRi rfl (by decide), xaT, trivial⟩) (fun _ _ h => yri h)
set_option maxRecDepth 6000 in
theorem xcs_seers {x : Int32} : xCs 148 258 [.int x] (fun a b => kI a ∧ kI b) := xboth (xcls (fun n => xn_148_0 (xLE_G9 n) (xLE_C n)) (by decide) (fun _ => ⟨xaRi rfl (by decide), xaT, trivial⟩) (fun _ _ h => yri h)) xcm_seers
set_option maxRecDepth 6000 in
theorem xcm_hidden : xCm 260 [] kJ := xmod (fun n => xn_260_0 (xLE_G94 n) (fun _ q => q.1.1)) (by decide) (by decide) (fun _ => ⟨xaRi rfl (by decide), trivial⟩) (fun _ _ h => yrj h)
set_option maxRecDepth 6000 in
theorem xcs_hidden : xCs 149 260 [] (fun a b => kJ a ∧ kJ b) := xboth (xcls (fun n => xn_149_0 (xLE_G9 n) (xLE_C n)) (by decide) (fun _ => ⟨xaRi rfl (by decide), trivial⟩) (fun _ _ h => yrj h)) xcm_hidden
set_option maxRecDepth 6000 in
theorem xcm_pairs : xCm 261 [] kI := xmod (fun n => xn_261_0 (xLE_G94 n) (fun _ q => q.1.1) (fun _ q => xINV_PG q.2)) (by decide) (by decide) (fun _ => ⟨xaRi rfl (by decide), trivial⟩) (fun _ _ h => yri h)
set_option maxRecDepth 6000 in
theorem xcs_pairs : xCs 150 261 [] (fun a b => kI a ∧ kI b) := xboth (xcls (fun n => xn_150_0 (xLE_G9 n) (xLE_C n)) (by decide) (fun _ => ⟨xaRi rfl (by decide), trivial⟩) (fun _ _ h => yri h)) xcm_pairs
set_option maxRecDepth 6000 in
theorem xcm_behind {x : Int32} : xCm 262 [.int x] kI := xmod (fun n => xn_262_0 (xLE_G94 n) (fun _ q => q.1.1) (fun _ q => xINV_PG q.2)) (by decide) (by decide) (fun _ => ⟨xaRi rfl (by decide), xaT, trivial⟩) (fun _ _ h => yri h)
set_option maxRecDepth 6000 in
theorem xcs_behind {x : Int32} : xCs 151 262 [.int x] (fun a b => kI a ∧ kI b) := xboth (xcls (fun n => xn_151_0 (xLE_G9 n) (xLE_C n)) (by decide) (fun _ => ⟨xaRi rfl (by decide), xaT, trivial⟩) (fun _ _ h => yri h)) xcm_behind
set_option maxRecDepth 6000 in
theorem xcm_widest : xCm 263 [] kI := xmod (fun n => xn_263_0 (xLE_G94 n) (fun _ q => q.1.1)) (by decide) (by decide) (fun _ => ⟨xaRi rfl (by decide), trivial⟩) (fun _ _ h => yri h)
set_option maxRecDepth 6000 in
theorem xcs_widest : xCs 152 263 [] (fun a b => kI a ∧ kI b) := xboth (xcls (fun n => xn_152_0 (xLE_G9 n) (xLE_C n)) (by decide) (fun _ => ⟨xaRi rfl (by decide), trivial⟩) (fun _ _ h => yri h)) xcm_widest
set_option maxRecDepth 6000 in
theorem xcm_watch : xCm 265 [] kI := xmod (fun n => xn_265_0 (xLE_G94 n) (fun _ q => q.1.1)) (by decide) (by decide) (fun _ => ⟨xaRi rfl (by decide), trivial⟩) (fun _ _ h => yri h)
set_option maxRecDepth 6000 in
theorem xcs_watch : xCs 153 265 [] (fun a b => kI a ∧ kI b) := xboth (xcls (fun n => xn_153_0 (xLE_G9 n) (xLE_C n)) (by decide) (fun _ => ⟨xaRi rfl (by decide), trivial⟩) (fun _ _ h => yri h)) xcm_watch
set_option maxRecDepth 6000 in
theorem xcm_learns {x y : Int32} : xCm 266 [.int x, .int y] kI := xmod (fun n => xn_266_0 (xLE_G95 n) (fun _ q => q.1.1)) (by decide) (by decide) (fun _ => ⟨xaRi rfl (by decide), xaT, xaT, trivial⟩) (fun _ _ h => yri h)
set_option maxRecDepth 6000 in
theorem xcs_learns {x y : Int32} : xCs 154 266 [.int x, .int y] (fun a b => kI a ∧ kI b) := xboth (xcls (fun n => xn_154_0 (xLE_G54 n) (xLE_C n)) (by decide) (fun _ => ⟨xaRi rfl (by decide), xaT, xaT, trivial⟩) (fun _ _ h => yri h)) xcm_learns
set_option maxRecDepth 6000 in
theorem xcm_all : xCm 268 [] kI := xmod (fun n => xn_268_0 (xLE_G95 n) (fun _ q => q.1.1)) (by decide) (by decide) (fun _ => ⟨xaRi rfl (by decide), trivial⟩) (fun _ _ h => yri h)
set_option maxRecDepth 6000 in
theorem xcs_all : xCs 155 268 [] (fun a b => kI a ∧ kI b) := xboth (xcls (fun n => xn_155_0 (xLE_G54 n) (xLE_C n)) (by decide) (fun _ => ⟨xaRi rfl (by decide), trivial⟩) (fun _ _ h => yri h)) xcm_all
set_option maxRecDepth 6000 in
theorem xcm_ahead {x : Int32} : xCm 269 [.int x] kI := xmod (fun n => xn_269_0 (xLE_G95 n) (fun _ q => q.1.1)) (by decide) (by decide) (fun _ => ⟨xaRi rfl (by decide), xaT, trivial⟩) (fun _ _ h => yri h)
set_option maxRecDepth 6000 in
theorem xcs_ahead {x : Int32} : xCs 156 269 [.int x] (fun a b => kI a ∧ kI b) := xboth (xcls (fun n => xn_156_0 (xLE_G54 n) (xLE_C n)) (by decide) (fun _ => ⟨xaRi rfl (by decide), xaT, trivial⟩) (fun _ _ h => yri h)) xcm_ahead
set_option maxRecDepth 6000 in
theorem xcm_gossip {x : Int32} : xCm 270 [.int x] kI := xmod (fun n => xn_270_0 (xLE_G94 n) (fun _ q => q.1.1)) (by decide) (by decide) (fun _ => ⟨xaRi rfl (by decide), xaT, trivial⟩) (fun _ _ h => yri h)
set_option maxRecDepth 6000 in
theorem xcs_gossip {x : Int32} : xCs 157 270 [.int x] (fun a b => kI a ∧ kI b) := xboth (xcls (fun n => xn_157_0 (xLE_G9 n) (xLE_C n)) (by decide) (fun _ => ⟨xaRi rfl (by decide), xaT, trivial⟩) (fun _ _ h => yri h)) xcm_gossip
set_option maxRecDepth 6000 in
theorem xcm_eighths {x y : Int32} : xCm 272 [.int x, .int y] kI := xmod (fun n => xn_272_0 (xLE_G94 n) (fun _ q => q.1.1)) (by decide) (by decide) (fun _ => ⟨xaRi rfl (by decide), xaT, xaT, trivial⟩) (fun _ _ h => yri h)
set_option maxRecDepth 6000 in
theorem xcs_eighths {x y : Int32} : xCs 158 272 [.int x, .int y] (fun a b => kI a ∧ kI b) := xboth (xcls (fun n => xn_158_0 (xLE_G9 n) (xLE_C n)) (by decide) (fun _ => ⟨xaRi rfl (by decide), xaT, xaT, trivial⟩) (fun _ _ h => yri h)) xcm_eighths
set_option maxRecDepth 6000 in
theorem xcm_turned : xCm 276 [] kI := xmod (fun n => xn_276_0 (xLE_G96 n) (fun _ q => q.1.1) (fun _ q => xINV_PG q.2)) (by decide) (by decide) (fun _ => ⟨xaRi rfl (by decide), trivial⟩) (fun _ _ h => yri h)
set_option maxRecDepth 6000 in
theorem xcs_turned : xCs 159 276 [] (fun a b => kI a ∧ kI b) := xboth (xcls (fun n => xn_159_0 (xLE_G9 n) (xLE_C n)) (by decide) (fun _ => ⟨xaRi rfl (by decide), trivial⟩) (fun _ _ h => yri h)) xcm_turned
set_option maxRecDepth 6000 in
theorem xcm_best {x : Int32} : xCm 277 [.int x] kI := xmod (fun n => xn_277_0 (xLE_G94 n) (fun _ q => q.1.1) (fun _ q => xINV_PG q.2)) (by decide) (by decide) (fun _ => ⟨xaRi rfl (by decide), xaT, trivial⟩) (fun _ _ h => yri h)
set_option maxRecDepth 6000 in
theorem xcs_best {x : Int32} : xCs 160 277 [.int x] (fun a b => kI a ∧ kI b) := xboth (xcls (fun n => xn_160_0 (xLE_G9 n) (xLE_C n)) (by decide) (fun _ => ⟨xaRi rfl (by decide), xaT, trivial⟩) (fun _ _ h => yri h)) xcm_best
set_option maxRecDepth 6000 in
theorem xcm_bears {x y : Int32} : xCm 278 [.int x, .int y] kI := xmod (fun n => xn_278_0 (xLE_G94 n) (fun _ q => q.1.1)) (by decide) (by decide) (fun _ => ⟨xaRi rfl (by decide), xaT, xaT, trivial⟩) (fun _ _ h => yri h)
set_option maxRecDepth 6000 in
theorem xcs_bears {x y : Int32} : xCs 161 278 [.int x, .int y] (fun a b => kI a ∧ kI b) := xboth (xcls (fun n => xn_161_0 (xLE_G9 n) (xLE_C n)) (by decide) (fun _ => ⟨xaRi rfl (by decide), xaT, xaT, trivial⟩) (fun _ _ h => yri h)) xcm_bears
set_option maxRecDepth 6000 in
theorem xcm_back {x y : Int32} : xCm 281 [.int x, .int y] kI := xmod (fun n => xn_281_0 (xLE_G98 n) (fun _ q => q.1.1)) (by decide) (by decide) (fun _ => ⟨xaRi rfl (by decide), xaT, xaT, trivial⟩) (fun _ _ h => yri h)
set_option maxRecDepth 6000 in
theorem xcs_back {x y : Int32} : xCs 164 281 [.int x, .int y] (fun a b => kI a ∧ kI b) := xboth (xcls (fun n => xn_164_0 (xLE_G9 n) (xLE_C n)) (by decide) (fun _ => ⟨xaRi rfl (by decide), xaT, xaT, trivial⟩) (fun _ _ h => yri h)) xcm_back
set_option maxRecDepth 6000 in
theorem xcm_open {x y : Int32} : xCm 282 [.int x, .int y] kI := xmod (fun n => xn_282_0 (xLE_G98 n) (fun _ q => q.1.1)) (by decide) (by decide) (fun _ => ⟨xaRi rfl (by decide), xaT, xaT, trivial⟩) (fun _ _ h => yri h)
set_option maxRecDepth 6000 in
theorem xcs_open {x y : Int32} : xCs 165 282 [.int x, .int y] (fun a b => kI a ∧ kI b) := xboth (xcls (fun n => xn_165_0 (xLE_G9 n) (xLE_C n)) (by decide) (fun _ => ⟨xaRi rfl (by decide), xaT, xaT, trivial⟩) (fun _ _ h => yri h)) xcm_open
set_option maxRecDepth 6000 in
theorem xcm_heard {x y : Int32} : xCm 283 [.int x, .int y] kI := xmod (fun n => xn_283_0 (xLE_G99 n)) (by decide) (by decide) (fun _ => ⟨xaRi rfl (by decide), xaT, xaT, trivial⟩) (fun _ _ h => yri h)
set_option maxRecDepth 6000 in
theorem xcs_heard {x y : Int32} : xCs 166 283 [.int x, .int y] (fun a b => kI a ∧ kI b) := xboth (xcls (fun n => xn_166_0 (xLE_G33 n) (xLE_C n)) (by decide) (fun _ => ⟨xaRi rfl (by decide), xaT, xaT, trivial⟩) (fun _ _ h => yri h)) xcm_heard
set_option maxRecDepth 6000 in
theorem xcm_forget : xCm 284 [] kI := xmod (fun n => xn_284_0 (xLE_G100 n)) (by decide) (by decide) (fun _ => ⟨xaRi rfl (by decide), trivial⟩) (fun _ _ h => yri h)
set_option maxRecDepth 6000 in
theorem xcs_forget : xCs 167 284 [] (fun a b => kI a ∧ kI b) := xboth (xcls (fun n => xn_167_0 (xLE_G33 n)) (by decide) (fun _ => ⟨xaRi rfl (by decide), trivial⟩) (fun _ _ h => yri h)) xcm_forget
set_option maxRecDepth 6000 in
theorem xcm_lost : xCm 286 [] kJ := xmod (fun n => xn_286_0 (xLE_G94 n) (fun _ q => q.1.1)) (by decide) (by decide) (fun _ => ⟨xaRi rfl (by decide), trivial⟩) (fun _ _ h => yrj h)
set_option maxRecDepth 6000 in
theorem xcs_lost : xCs 168 286 [] (fun a b => kJ a ∧ kJ b) := xboth (xcls (fun n => xn_168_0 (xLE_G9 n)) (by decide) (fun _ => ⟨xaRi rfl (by decide), trivial⟩) (fun _ _ h => yrj h)) xcm_lost
set_option maxRecDepth 6000 in
theorem xcm_asks : xCm 287 [] kI := xmod (fun n => xn_287_0 (xLE_G94 n) (fun _ q => q.1.1)) (by decide) (by decide) (fun _ => ⟨xaRi rfl (by decide), trivial⟩) (fun _ _ h => yri h)
set_option maxRecDepth 6000 in
theorem xcs_asks : xCs 169 287 [] (fun a b => kI a ∧ kI b) := xboth (xcls (fun n => xn_169_0 (xLE_G9 n) (xLE_C n)) (by decide) (fun _ => ⟨xaRi rfl (by decide), trivial⟩) (fun _ _ h => yri h)) xcm_asks
set_option maxRecDepth 6000 in
theorem xcm_storm {x y z : Int32} : xCm 288 [.int x, .int y, .int z] kI := xmod (fun n => xn_288_0 (xLE_G94 n) (fun _ q => q.1.1)) (by decide) (by decide) (fun _ => ⟨xaRi rfl (by decide), xaT, xaT, xaT, trivial⟩) (fun _ _ h => yri h)
set_option maxRecDepth 6000 in
theorem xcs_storm {x y z : Int32} : xCs 171 288 [.int x, .int y, .int z] (fun a b => kI a ∧ kI b) := xboth (xcls (fun n => xn_171_0 (xLE_G9 n) (xLE_C n)) (by decide) (fun _ => ⟨xaRi rfl (by decide), xaT, xaT, xaT, trivial⟩) (fun _ _ h => yri h)) xcm_storm
set_option maxRecDepth 6000 in
theorem xcm_cock {x y : Int32} : xCm 289 [.int x, .int y] kI := xmod (fun n => xn_289_0 (xLE_G57 n)) (by decide) (by decide) (fun _ => ⟨xaRi rfl (by decide), xaT, xaT, trivial⟩) (fun _ _ h => yri h)
set_option maxRecDepth 6000 in
theorem xcs_cock {x y : Int32} : xCs 172 289 [.int x, .int y] (fun a b => kI a ∧ kI b) := xboth (xcls (fun n => xn_172_0 (xLE_G8 n)) (by decide) (fun _ => ⟨xaRi rfl (by decide), xaT, xaT, trivial⟩) (fun _ _ h => yri h)) xcm_cock
set_option maxRecDepth 6000 in
theorem xcr_law : xCr 290 := fun n hn ph hP hV hI hz => by
  obtain ⟨v, ph', a, z, e, b, c, dd, e14, e15, e16⟩ := xlaw (E := fun p => yz1 p ∧ xINV n p) (xHE_and (xHE_gA (i := 44) rfl rfl) (xHE_sub (by decide +kernel) (by decide +kernel) (xHEI n))) (xLm_le (n := n + 1) (by omega)) xLm_0 (D := 600) (by decide) (xshift hP (by decide)) ⟨hz, hI⟩ hV
  obtain rfl := xint0 (x := e14) (by rw [e16]; exact Int.le_refl _) (by rw [e16]; exact Int.le_refl _)
  exact ⟨v, ph', a, z, e, b, dd, xINV_le (Nat.le_succ n) c.2, c.1, e15⟩
set_option maxRecDepth 6000 in
theorem xcs_law : xCs 173 290 [] (fun a b => kI a ∧ kI b) := xrdrC (gA := xgA_G55) (gF := xgF_G55) (fun n => xHE_and (xHE_sub (by decide +kernel) (by decide +kernel) xHEV) (xHE_sub (by decide +kernel) (by decide +kernel) (xHEI n))) (fun n => xPC_of (xHE_and (xHE_sub (by decide +kernel) (by decide +kernel) xHEV) (xHE_sub (by decide +kernel) (by decide +kernel) (xHEI n)))) (fun h hC => xn_173_0 h hC) (by decide) (fun _ _ h => yri h) xcr_law
set_option maxRecDepth 6000 in
theorem xcm_rests {x : Int32} : xCm 293 [.int x] kI := xmod (fun n => xn_293_0 (xLE_G94 n)) (by decide) (by decide) (fun _ => ⟨xaRi rfl (by decide), xaT, trivial⟩) (fun _ _ h => yri h)
set_option maxRecDepth 6000 in
theorem xcs_rests {x : Int32} : xCs 174 293 [.int x] (fun a b => kI a ∧ kI b) := xboth (xcls (fun n => xn_174_0 (xLE_G9 n)) (by decide) (fun _ => ⟨xaRi rfl (by decide), xaT, trivial⟩) (fun _ _ h => yri h)) xcm_rests
set_option maxRecDepth 6000 in
theorem xcm_years {x y : Int32} : xCm 295 [.int x, .int y] kI := xmod (fun n => xn_295_0 (xLE_G103 n) (fun _ q => q.1.1)) (by decide) (by decide) (fun _ => ⟨xaRi rfl (by decide), xaT, xaT, trivial⟩) (fun _ _ h => yri h)
set_option maxRecDepth 6000 in
theorem xcs_years {x y : Int32} : xCs 175 295 [.int x, .int y] (fun a b => kI a ∧ kI b) := xboth (xcls (fun n => xn_175_0 (xLE_G54 n) (xLE_C n)) (by decide) (fun _ => ⟨xaRi rfl (by decide), xaT, xaT, trivial⟩) (fun _ _ h => yri h)) xcm_years
set_option maxRecDepth 6000 in
theorem xcm_keep {x : Int32} : xCm 296 [.int x] kI := fun n hn ph hP hE => by
  obtain ⟨v, ph', a, r, rfl, b, c, dd, e, -⟩ := xkeeps (n := n) (y := x) (R := xtie) xHE_tie (xLm_le (by omega)) xLm_0 (D := 600) (by decide) (xshift hP (by decide)) hE.1.1 hE.2 hE.1.2
  exact ⟨_, ph', a, ⟨r, rfl⟩, b, ⟨c, e⟩, xINV_le (Nat.le_succ n) dd⟩
def xkd (lo hi : Int) : xnd × List Nat := ((0, [some (.inr (.inr (.inl 31))), some (.inl (lo, hi))], [], 0, (Int.ofNat 0, [])), [])
noncomputable def xkC (lo hi : Int) (r : Nat) : Bool := xnchk xX xsp_177_0 xt_177 [] [[xkd lo hi]] (some (.inl (Int.ofNat r, Int.ofNat r))) [] 600 (xkd lo hi)
set_option maxRecDepth 6000 in
theorem xkC1 : xkC (Int.negSucc 2147483647) (Int.negSucc 0) 0 = true := by decide +kernel
set_option maxRecDepth 6000 in
theorem xkC2 : xkC (Int.ofNat 0) (Int.ofNat 2) 1 = true := by decide +kernel
set_option maxRecDepth 6000 in
theorem xkC3 : xkC (Int.ofNat 3) (Int.ofNat 2147483647) 0 = true := by decide +kernel
set_option maxRecDepth 6000 in
theorem xn_177_t {E : pm_H → Prop} (hE : xHE xX xgA_G16 xgF_G16 E) {r : Nat} {lo hi : Int} (h : xkC lo hi r = true) : xcon xX kK E 3 177 [.inr (.inr (.inl 31)), .inl (lo, hi)] [] 0 (some (.inl (Int.ofNat r, Int.ofNat r))) [] := xnodes_ok (nl := 2) (f := 600) (sp := xsp_177_0) (T := xt_177) (cps := []) (ns := [[xkd lo hi]]) rfl rfl (xq_177 hE) rfl (List.forall_mem_cons.mpr ⟨List.forall_mem_cons.mpr ⟨h, fun _ h => absurd h List.not_mem_nil⟩, fun _ h => absurd h List.not_mem_nil⟩)
set_option maxRecDepth 6000 in
theorem xcs_keepE {x : Int32} : xCs 177 296 [.int x] (fun a b => kI a ∧ a = b) := fun n hn ph hI => by
  obtain ⟨lo, hi, r, y1, y2, c, hr⟩ : ∃ (lo hi : Int) (r : Nat), lo ≤ x.toInt ∧ x.toInt ≤ hi ∧ xkC lo hi r = true ∧ ((r = 1 ∧ 0 ≤ x.toInt ∧ x.toInt ≤ 2) ∨ (r = 0 ∧ (x.toInt < 0 ∨ 2 < x.toInt))) := by
    by_cases g1 : x.toInt < 0
    · exact ⟨_, _, 0, x32_lo x, show x.toInt ≤ -1 by omega, xkC1, Or.inr ⟨rfl, Or.inl g1⟩⟩
    · by_cases g2 : 2 < x.toInt
      · exact ⟨_, _, 0, show (3 : Int) ≤ x.toInt by omega, x32_hi x, xkC3, Or.inr ⟨rfl, Or.inr g2⟩⟩
      · exact ⟨_, _, 1, show (0 : Int) ≤ x.toInt by omega, show x.toInt ≤ (2 : Int) by omega, xkC2, Or.inl ⟨rfl, by omega, by omega⟩⟩
  obtain ⟨v, ph1, a1, a2, a3, ⟨u, e1, s, e2, s1, s2⟩, -⟩ := xn_177_t (xLE_G16 n) c 600 (by decide) (xLm n) (xLm_le (by omega)) xLm_0 [.ref 0, .int x] ph ⟨xaRi rfl (by decide), xaI y1 y2, trivial⟩ (fun _ _ h => absurd h List.not_mem_nil) hI.1 hI.2
  subst e1 e2
  obtain ⟨v2, ph2, b1, q, e3, b2, b3, b4, b5, b6⟩ := xkeeps (n := n) (y := x) (R := xtie) xHE_tie (m := xLm (n + 1)) (xLm_le (by omega)) xLm_0 (D := 600) (by decide) (xshift a2 (by decide)) a3.1.1 a3.2 a3.1.2
  subst e3
  have s1 : (r : Int) ≤ s.toInt := s1
  have s2 : s.toInt ≤ (r : Int) := s2
  have er : s = q := Int32.toInt_inj.mp (by omega)
  subst er
  exact ⟨.int s, .int s, ph1, ph2, ⟨xat0 hI.1, xat170 a2⟩, a1, b1, ⟨⟨s, rfl⟩, rfl⟩, b2, ⟨b3, b5⟩, xINV_le (Nat.le_succ n) b4⟩
set_option maxRecDepth 6000 in
theorem xcs_keep {x : Int32} : xCs 177 296 [.int x] (fun a b => kI a ∧ kI b) := xboth (xcls (fun n => xn_177_0 (xLE_G16 n)) (by decide) (fun _ => ⟨xaRi rfl (by decide), xaT, trivial⟩) (fun _ _ h => yri h)) xcm_keep
set_option maxRecDepth 6000 in
theorem xcm_again {x : Int32} : xCm 297 [.int x] kI := fun n hn ph hP hE => by
  obtain ⟨v, ph', a, r, rfl, b, c, dd, e⟩ := xagain (n := n) (y := x) (R := xtie) xHE_tie (xLm_le (by omega)) xLm_0 (D := 600) (by decide) (xshift hP (by decide)) hE.1.1 hE.2 hE.1.2
  exact ⟨_, ph', a, ⟨r, rfl⟩, b, ⟨c, e⟩, xINV_le (Nat.le_succ n) dd⟩
set_option maxRecDepth 6000 in
theorem xcs_again {x : Int32} : xCs 178 297 [.int x] (fun a b => kI a ∧ kI b) := xboth (xcls (fun n => xn_178_0 (xLE_G17 n)) (by decide) (fun _ => ⟨xaRi rfl (by decide), xaT, trivial⟩) (fun _ _ h => yri h)) xcm_again
set_option maxRecDepth 6000 in
theorem xcm_count {x : Int32} : xCm 298 [.int x] kI := xmod (fun n => xn_298_0 (xLE_G57 n) (fun _ q => q.1.1)) (by decide) (by decide) (fun _ => ⟨xaRi rfl (by decide), xaT, trivial⟩) (fun _ _ h => yri h)
set_option maxRecDepth 6000 in
theorem xcs_count {x : Int32} : xCs 179 298 [.int x] (fun a b => kI a ∧ kI b) := xboth (xcls (fun n => xn_179_0 (xLE_G8 n) (xLE_C n)) (by decide) (fun _ => ⟨xaRi rfl (by decide), xaT, trivial⟩) (fun _ _ h => yri h)) xcm_count
set_option maxRecDepth 6000 in
theorem xcm_row {x : Int32} : xCm 299 [.int x] kJ := xmod (fun n => xn_299_0 (xLE_G57 n)) (by decide) (by decide) (fun _ => ⟨xaRi rfl (by decide), xaT, trivial⟩) (fun _ _ h => yrj h)

/-! the class: views of one, looks, who SEES a FIELD, by W; printed by wip/z/z2a_look.py -/
theorem zc_reachU {ph : pm_H} {E : zEn} {F S P G : Nat} {v : Nat → Nat} (hS : zSh ph) (hE : zCe ph E F) (ht : zCt ph S P G v) (hO : zOk E.1 E.2.1 P G v) (hr : zc ph 10 1 = some (.ref F)) {p br : Nat} (hp : p < P) (hb : br ≤ 4) : zM 80 [.ref 10, .ref S, .int (zn p), .int (zn br)] ph (fun v0 q => zCr ph q ∧ v0 = some (.int (zn (zRe E P v p br)))) := by
  obtain ⟨Q, hQ⟩ : ∃ Q : Option Value → pm_H → Prop, Q = (fun v0 q => zCr ph q ∧ v0 = some (.int (zn (zRe E P v p br)))) := ⟨_, rfl⟩
  rw [← hQ]
  refine zM_mk fun n D => ?_
  show zW n D 80 Q 0 [some (.ref 10), some (.ref S), some (.int (zn p)), some (.int (zn br))] [] ph
  have c_0 : (Int32.ofInt 0).toInt = 0 := by decide
  obtain ⟨R, C, rk, sn, sk, cn, cd⟩ := E
  have hL0 : zCl ph R C rk := hE.1
  have hi0 : zCi ph sn sk := hE.2.1
  have hF : F = 11 ∨ F = 16 := hE.2.2.2
  have hE0 : zCe ph (R, C, rk, sn, sk, cn, cd) F := hE
  have hO0 : zOk R C P G v := hO
  have hL := hL0
  have hs := ht.1.2
  have hd := ht.2
  have h25 := ht.1.1
  obtain ⟨gR, gC, gN, gK, gA, hR3, hR7, hC3, hC7⟩ := hL
  have hRC := zRC49 hR7 hC7
  have tR := znt (k := R) (by omega)
  have tC := znt (k := C) (by omega)
  have tRC := znt (k := R * C) (by omega)
  have hd0 := hd
  have hs0 := hs
  obtain ⟨r3, r4, r5, r6, r7, l1, l2, l3, l4, l5⟩ := hs
  obtain ⟨gP, hP8, gG, hG8, gH, gv, gw⟩ := hd
  have tP := znt (k := P) (by omega)
  have tG := znt (k := G) (by omega)
  have h40 := hO0.2.2
  have t40 := znt (k := v 40) (by omega)
  have tp := znt (k := p) (by omega)
  have tbr := znt (k := br) (by omega)
  refine w_load (pc' := 1) (v := .ref S) (m := 1) (ykc_80 (e := (2, .aload_n kF1, 0)) rfl) rfl rfl ?_
  refine w_load (pc' := 2) (v := .int (zn p)) (m := 1) (ykc_80 (e := (2, .iload_n kF2, 0)) rfl) rfl rfl ?_
  refine w_cv (as := [.ref S, .int (zn p)]) (r := []) (ykc_80 (e := (6, .invokevirtual 53, 0)) rfl) rfl rfl rfl rfl (zc_hasP ht.1.2 ht.2 (i := (zn p))) (fun v786 ph787 hv => ?_)
  obtain ⟨rfl, rfl⟩ := hv
  show zW n D 80 Q 5 [some (.ref 10), some (.ref S), some (.int (zn p)), some (.int (zn br))] [.int (zI (decide (0 ≤ (zn p).toInt ∧ (zn p).toInt < ((P : Nat) : Int))))] ph
  refine w_beq (ykc_80 (e := (4, .ifCond .eq 17, 22)) rfl) rfl (fun q => by have := of_decide_eq_false q; omega) (fun b788 => ?_)
  refine w_load (pc' := 9) (v := .ref 10) (m := 1) (ykc_80 (e := (2, .aload_n kF0, 0)) rfl) rfl rfl ?_
  refine w_load (pc' := 10) (v := .ref 10) (m := 1) (ykc_80 (e := (2, .aload_n kF0, 0)) rfl) rfl rfl ?_
  refine w_gf (pc' := 13) (v := .ref F) (ykc_80 (e := (5, .getfield 18, 0)) rfl) rfl hr rfl ?_
  refine w_load (pc' := 14) (v := .ref S) (m := 1) (ykc_80 (e := (2, .aload_n kF1, 0)) rfl) rfl rfl ?_
  refine w_load (pc' := 15) (v := .int (zn p)) (m := 1) (ykc_80 (e := (2, .iload_n kF2, 0)) rfl) rfl rfl ?_
  refine w_load (pc' := 16) (v := .int (zn br)) (m := 1) (ykc_80 (e := (2, .iload_n kF3, 0)) rfl) rfl rfl ?_
  refine w_cv (as := [.ref 10, .ref F, .ref S, .int (zn p), .int (zn br)]) (r := []) (ykc_80 (e := (6, .invokevirtual 62, 0)) rfl) rfl rfl rfl rfl (zc_reach hS hE0 ht hO0 (p := p) (br := br) (by omega) (by omega)) (fun v790 ph791 hv => ?_)
  obtain ⟨f789, rfl⟩ := hv
  have rf789 := @zRe_9 (R, C, rk, sn, sk, cn, cd) P v p br
  have trf789 := znt (k := zRe (R, C, rk, sn, sk, cn, cd) P v p br) (by omega)
  show zW n D 80 Q 19 [some (.ref 10), some (.ref S), some (.int (zn p)), some (.int (zn br))] [.int (zn (zRe (R, C, rk, sn, sk, cn, cd) P v p br))] ph791
  refine w_br (pc' := 23) (st' := [.int (zn (zRe (R, C, rk, sn, sk, cn, cd) P v p br))]) (ykc_80 (e := (4, .goto 4, 23)) rfl) rfl ?_
  refine w_ret (v := (some (.int (zn (zRe (R, C, rk, sn, sk, cn, cd) P v p br))))) (ykc_80 (e := (7, .ireturn, 0)) rfl) (zr_v rfl) ?_
  rw [hQ]
  exact ⟨f789, rfl⟩
theorem zc_reachP {ph : pm_H} {E : zEn} {F S P G : Nat} {v : Nat → Nat} (hS : zSh ph) (hE : zCe ph E F) (ht : zCt ph S P G v) (hO : zOk E.1 E.2.1 P G v) (hr : zc ph 10 1 = some (.ref F)) {p : Nat} (hp : p < P) : zM 79 [.ref 10, .ref S, .int (zn p)] ph (fun v0 q => zCr ph q ∧ v0 = some (.int (zn (zRe E P v p (v (16 + p)))))) := by
  obtain ⟨Q, hQ⟩ : ∃ Q : Option Value → pm_H → Prop, Q = (fun v0 q => zCr ph q ∧ v0 = some (.int (zn (zRe E P v p (v (16 + p)))))) := ⟨_, rfl⟩
  rw [← hQ]
  refine zM_mk fun n D => ?_
  show zW n D 79 Q 0 [some (.ref 10), some (.ref S), some (.int (zn p))] [] ph
  have c_0 : (Int32.ofInt 0).toInt = 0 := by decide
  obtain ⟨R, C, rk, sn, sk, cn, cd⟩ := E
  have hL0 : zCl ph R C rk := hE.1
  have hi0 : zCi ph sn sk := hE.2.1
  have hF : F = 11 ∨ F = 16 := hE.2.2.2
  have hE0 : zCe ph (R, C, rk, sn, sk, cn, cd) F := hE
  have hO0 : zOk R C P G v := hO
  have hL := hL0
  have hs := ht.1.2
  have hd := ht.2
  have h25 := ht.1.1
  obtain ⟨gR, gC, gN, gK, gA, hR3, hR7, hC3, hC7⟩ := hL
  have hRC := zRC49 hR7 hC7
  have tR := znt (k := R) (by omega)
  have tC := znt (k := C) (by omega)
  have tRC := znt (k := R * C) (by omega)
  have hd0 := hd
  have hs0 := hs
  obtain ⟨r3, r4, r5, r6, r7, l1, l2, l3, l4, l5⟩ := hs
  obtain ⟨gP, hP8, gG, hG8, gH, gv, gw⟩ := hd
  have tP := znt (k := P) (by omega)
  have tG := znt (k := G) (by omega)
  have h40 := hO0.2.2
  have t40 := znt (k := v 40) (by omega)
  have tp := znt (k := p) (by omega)
  refine w_load (pc' := 1) (v := .ref S) (m := 1) (ykc_79 (e := (2, .aload_n kF1, 0)) rfl) rfl rfl ?_
  refine w_load (pc' := 2) (v := .int (zn p)) (m := 1) (ykc_79 (e := (2, .iload_n kF2, 0)) rfl) rfl rfl ?_
  refine w_cv (as := [.ref S, .int (zn p)]) (r := []) (ykc_79 (e := (6, .invokevirtual 53, 0)) rfl) rfl rfl rfl rfl (zc_hasP ht.1.2 ht.2 (i := (zn p))) (fun v792 ph793 hv => ?_)
  obtain ⟨rfl, rfl⟩ := hv
  show zW n D 79 Q 5 [some (.ref 10), some (.ref S), some (.int (zn p))] [.int (zI (decide (0 ≤ (zn p).toInt ∧ (zn p).toInt < ((P : Nat) : Int))))] ph
  refine w_beq (ykc_79 (e := (4, .ifCond .eq 22, 27)) rfl) rfl (fun q => by have := of_decide_eq_false q; omega) (fun b794 => ?_)
  refine w_load (pc' := 9) (v := .ref 10) (m := 1) (ykc_79 (e := (2, .aload_n kF0, 0)) rfl) rfl rfl ?_
  refine w_load (pc' := 10) (v := .ref 10) (m := 1) (ykc_79 (e := (2, .aload_n kF0, 0)) rfl) rfl rfl ?_
  refine w_gf (pc' := 13) (v := .ref F) (ykc_79 (e := (5, .getfield 18, 0)) rfl) rfl hr rfl ?_
  refine w_load (pc' := 14) (v := .ref S) (m := 1) (ykc_79 (e := (2, .aload_n kF1, 0)) rfl) rfl rfl ?_
  refine w_load (pc' := 15) (v := .int (zn p)) (m := 1) (ykc_79 (e := (2, .iload_n kF2, 0)) rfl) rfl rfl ?_
  refine w_load (pc' := 16) (v := .ref S) (m := 1) (ykc_79 (e := (2, .aload_n kF1, 0)) rfl) rfl rfl ?_
  refine w_gf (pc' := 19) (v := .ref (S + 3)) (ykc_79 (e := (5, .getfield 59, 0)) rfl) rfl r5 rfl ?_
  refine w_load (pc' := 20) (v := .int (zn p)) (m := 1) (ykc_79 (e := (2, .iload_n kF2, 0)) rfl) rfl rfl ?_
  have q795 := hO0.1 p (by omega)
  have tq795 := znt (k := v (16 + p)) (by omega)
  refine w_ialk (pc' := 21) (k := p) (ykc_79 (e := (5, .iaload, 0)) rfl) (gv p (by omega)).2.2.1 (by omega) rfl ?_
  refine w_cv (as := [.ref 10, .ref F, .ref S, .int (zn p), .int (zn (v (16 + p)))]) (r := []) (ykc_79 (e := (6, .invokevirtual 62, 0)) rfl) rfl rfl rfl rfl (zc_reach hS hE0 ht hO0 (p := p) (br := v (16 + p)) (by omega) (by omega)) (fun v797 ph798 hv => ?_)
  obtain ⟨f796, rfl⟩ := hv
  have rf796 := @zRe_9 (R, C, rk, sn, sk, cn, cd) P v p (v (16 + p))
  have trf796 := znt (k := zRe (R, C, rk, sn, sk, cn, cd) P v p (v (16 + p))) (by omega)
  show zW n D 79 Q 24 [some (.ref 10), some (.ref S), some (.int (zn p))] [.int (zn (zRe (R, C, rk, sn, sk, cn, cd) P v p (v (16 + p))))] ph798
  refine w_br (pc' := 28) (st' := [.int (zn (zRe (R, C, rk, sn, sk, cn, cd) P v p (v (16 + p))))]) (ykc_79 (e := (4, .goto 4, 28)) rfl) rfl ?_
  refine w_ret (v := (some (.int (zn (zRe (R, C, rk, sn, sk, cn, cd) P v p (v (16 + p))))))) (ykc_79 (e := (7, .ireturn, 0)) rfl) (zr_v rfl) ?_
  rw [hQ]
  exact ⟨f796, rfl⟩
theorem zc_viewU {ph : pm_H} {E : zEn} {F S P G : Nat} {v : Nat → Nat} (hS : zSh ph) (hE : zCe ph E F) (ht : zCt ph S P G v) (hO : zOk E.1 E.2.1 P G v) (hr : zc ph 10 1 = some (.ref F)) (hc : zCc ph E.1 E.2.1 E.2.2.1) {p br : Nat} (hp : p < P) (hb : br ≤ 4) : zM 83 [.ref 10, .ref S, .int (zn p), .int (zn br)] ph (fun v0 q => zCx ph q ∧ zCc q E.1 E.2.1 E.2.2.1 ∧ v0 = some (.long (zS (zSw E P v p (v (8 + p)) br) (E.1 * E.2.1)))) := by
  obtain ⟨Q, hQ⟩ : ∃ Q : Option Value → pm_H → Prop, Q = (fun v0 q => zCx ph q ∧ zCc q E.1 E.2.1 E.2.2.1 ∧ v0 = some (.long (zS (zSw E P v p (v (8 + p)) br) (E.1 * E.2.1)))) := ⟨_, rfl⟩
  rw [← hQ]
  refine zM_mk fun n D => ?_
  show zW n D 83 Q 0 [some (.ref 10), some (.ref S), some (.int (zn p)), some (.int (zn br)), none] [] ph
  obtain ⟨R, C, rk, sn, sk, cn, cd⟩ := E
  have hL0 : zCl ph R C rk := hE.1
  have hi0 : zCi ph sn sk := hE.2.1
  have hF : F = 11 ∨ F = 16 := hE.2.2.2
  have hE0 : zCe ph (R, C, rk, sn, sk, cn, cd) F := hE
  have hO0 : zOk R C P G v := hO
  have hL := hL0
  have hs := ht.1.2
  have hd := ht.2
  have h25 := ht.1.1
  obtain ⟨gR, gC, gN, gK, gA, hR3, hR7, hC3, hC7⟩ := hL
  have hRC := zRC49 hR7 hC7
  have tR := znt (k := R) (by omega)
  have tC := znt (k := C) (by omega)
  have tRC := znt (k := R * C) (by omega)
  have hd0 := hd
  have hs0 := hs
  obtain ⟨r3, r4, r5, r6, r7, l1, l2, l3, l4, l5⟩ := hs
  obtain ⟨gP, hP8, gG, hG8, gH, gv, gw⟩ := hd
  have tP := znt (k := P) (by omega)
  have tG := znt (k := G) (by omega)
  have h40 := hO0.2.2
  have t40 := znt (k := v 40) (by omega)
  have hc0 := hc
  have tp := znt (k := p) (by omega)
  have tbr := znt (k := br) (by omega)
  refine w_load (pc' := 1) (v := .ref S) (m := 1) (ykc_83 (e := (2, .aload_n kF1, 0)) rfl) rfl rfl ?_
  refine w_load (pc' := 2) (v := .int (zn p)) (m := 1) (ykc_83 (e := (2, .iload_n kF2, 0)) rfl) rfl rfl ?_
  refine w_cv (as := [.ref S, .int (zn p)]) (r := []) (ykc_83 (e := (6, .invokevirtual 53, 0)) rfl) rfl rfl rfl rfl (zc_hasP ht.1.2 ht.2 (i := (zn p))) (fun v799 ph800 hv => ?_)
  obtain ⟨rfl, rfl⟩ := hv
  show zW n D 83 Q 5 [some (.ref 10), some (.ref S), some (.int (zn p)), some (.int (zn br)), none] [.int (zI (decide (0 ≤ (zn p).toInt ∧ (zn p).toInt < ((P : Nat) : Int))))] ph
  refine w_bne (ykc_83 (e := (4, .ifCond .ne 5, 10)) rfl) rfl (fun b801 => ?_) (fun q => by have := of_decide_eq_false q; omega)
  refine w_load (pc' := 11) (v := .ref 10) (m := 1) (ykc_83 (e := (2, .aload_n kF0, 0)) rfl) rfl rfl ?_
  refine w_load (pc' := 12) (v := .ref 10) (m := 1) (ykc_83 (e := (2, .aload_n kF0, 0)) rfl) rfl rfl ?_
  refine w_gf (pc' := 15) (v := .ref F) (ykc_83 (e := (5, .getfield 18, 0)) rfl) rfl hr rfl ?_
  refine w_load (pc' := 16) (v := .ref S) (m := 1) (ykc_83 (e := (2, .aload_n kF1, 0)) rfl) rfl rfl ?_
  refine w_load (pc' := 17) (v := .int (zn p)) (m := 1) (ykc_83 (e := (2, .iload_n kF2, 0)) rfl) rfl rfl ?_
  refine w_load (pc' := 18) (v := .int (zn br)) (m := 1) (ykc_83 (e := (2, .iload_n kF3, 0)) rfl) rfl rfl ?_
  refine w_cv (as := [.ref 10, .ref F, .ref S, .int (zn p), .int (zn br)]) (r := []) (ykc_83 (e := (6, .invokevirtual 62, 0)) rfl) rfl rfl rfl rfl (zc_reach hS hE0 ht hO0 (p := p) (br := br) (by omega) (by omega)) (fun v803 ph804 hv => ?_)
  obtain ⟨f802, rfl⟩ := hv
  have rf802 := @zRe_9 (R, C, rk, sn, sk, cn, cd) P v p br
  have trf802 := znt (k := zRe (R, C, rk, sn, sk, cn, cd) P v p br) (by omega)
  show zW n D 83 Q 21 [some (.ref 10), some (.ref S), some (.int (zn p)), some (.int (zn br)), none] [.int (zn (zRe (R, C, rk, sn, sk, cn, cd) P v p br))] ph804
  refine w_store (pc' := 23) (L' := [some (.ref 10), some (.ref S), some (.int (zn p)), some (.int (zn br)), some (.int (zn (zRe (R, C, rk, sn, sk, cn, cd) P v p br)))]) (st' := []) (m := 2) (ykc_83 (e := (3, .istore 4, 0)) rfl) rfl rfl ?_
  refine w_load (pc' := 24) (v := .ref 10) (m := 1) (ykc_83 (e := (2, .aload_n kF0, 0)) rfl) rfl rfl ?_
  refine w_gf (pc' := 27) (v := .ref 5) (ykc_83 (e := (5, .getfield 9, 0)) rfl) rfl ((f802.1 10 0 (by decide) (by decide)).trans (zsg hS zs_10_0)) rfl ?_
  refine w_load (pc' := 28) (v := .ref S) (m := 1) (ykc_83 (e := (2, .aload_n kF1, 0)) rfl) rfl rfl ?_
  refine w_gf (pc' := 31) (v := .ref (S + 1)) (ykc_83 (e := (5, .getfield 66, 0)) rfl) rfl ((f802.1 S 3 (by simp <;> omega) (by simp <;> omega)).trans r3) rfl ?_
  refine w_load (pc' := 32) (v := .int (zn p)) (m := 1) (ykc_83 (e := (2, .iload_n kF2, 0)) rfl) rfl rfl ?_
  have q805 := hO0.1 p (by omega)
  have tq805 := znt (k := v p) (by omega)
  refine w_ialk (pc' := 33) (k := p) (ykc_83 (e := (5, .iaload, 0)) rfl) ((f802.1 (S + 1) p (by simp <;> omega) (by simp <;> omega)).trans (gv p (by omega)).1) (by omega) rfl ?_
  refine w_load (pc' := 34) (v := .ref S) (m := 1) (ykc_83 (e := (2, .aload_n kF1, 0)) rfl) rfl rfl ?_
  refine w_gf (pc' := 37) (v := .ref (S + 2)) (ykc_83 (e := (5, .getfield 83, 0)) rfl) rfl ((f802.1 S 4 (by simp <;> omega) (by simp <;> omega)).trans r4) rfl ?_
  refine w_load (pc' := 38) (v := .int (zn p)) (m := 1) (ykc_83 (e := (2, .iload_n kF2, 0)) rfl) rfl rfl ?_
  have q806 := hO0.1 p (by omega)
  have tq806 := znt (k := v (8 + p)) (by omega)
  refine w_ialk (pc' := 39) (k := p) (ykc_83 (e := (5, .iaload, 0)) rfl) ((f802.1 (S + 2) p (by simp <;> omega) (by simp <;> omega)).trans (gv p (by omega)).2.1) (by omega) rfl ?_
  refine w_load (pc' := 40) (v := .int (zn br)) (m := 1) (ykc_83 (e := (2, .iload_n kF3, 0)) rfl) rfl rfl ?_
  refine w_load (pc' := 42) (v := .int (zn (zRe (R, C, rk, sn, sk, cn, cd) P v p br))) (m := 2) (ykc_83 (e := (2, .iload 4, 0)) rfl) rfl rfl ?_
  refine w_cv (as := [.ref 5, .int (zn (v p)), .int (zn (v (8 + p))), .int (zn br), .int (zn (zRe (R, C, rk, sn, sk, cn, cd) P v p br))]) (r := []) (ykc_83 (e := (6, .invokevirtual 115, 0)) rfl) rfl rfl rfl rfl (zc_view (zCx_S (zCr_x f802) hS) (zCx_l (zCr_x f802) hL0) (f := v p) (fc := v (8 + p)) (br := br) (re := zRe (R, C, rk, sn, sk, cn, cd) P v p br) (zCr_c f802 hc0) (by omega) (by omega) (by omega) (by omega)) (fun v809 ph810 hv => ?_)
  obtain ⟨f807, hc808, rfl⟩ := hv
  show zW n D 83 Q 45 [some (.ref 10), some (.ref S), some (.int (zn p)), some (.int (zn br)), some (.int (zn (zRe (R, C, rk, sn, sk, cn, cd) P v p br)))] [.long (zS (fun g => zsee C rk (v p) g (v (8 + p)) br (zRe (R, C, rk, sn, sk, cn, cd) P v p br)) (R * C))] ph810
  refine w_ret (v := (some (.long (zS (fun g => zsee C rk (v p) g (v (8 + p)) br (zRe (R, C, rk, sn, sk, cn, cd) P v p br)) (R * C))))) (ykc_83 (e := (7, .lreturn, 0)) rfl) (zr_v rfl) ?_
  rw [hQ]
  exact ⟨(zFr_trans (zCr_x f802) (zCy_x f807)), hc808, rfl⟩
theorem zc_viewOf {ph : pm_H} {E : zEn} {F S P G : Nat} {v : Nat → Nat} (hS : zSh ph) (hE : zCe ph E F) (ht : zCt ph S P G v) (hO : zOk E.1 E.2.1 P G v) (hr : zc ph 10 1 = some (.ref F)) (hc : zCc ph E.1 E.2.1 E.2.2.1) {p : Nat} (hp : p < P) : zM 82 [.ref 10, .ref S, .int (zn p)] ph (fun v0 q => zCx ph q ∧ zCc q E.1 E.2.1 E.2.2.1 ∧ v0 = some (.long (zVw E P v p))) := by
  obtain ⟨Q, hQ⟩ : ∃ Q : Option Value → pm_H → Prop, Q = (fun v0 q => zCx ph q ∧ zCc q E.1 E.2.1 E.2.2.1 ∧ v0 = some (.long (zVw E P v p))) := ⟨_, rfl⟩
  rw [← hQ]
  refine zM_mk fun n D => ?_
  show zW n D 82 Q 0 [some (.ref 10), some (.ref S), some (.int (zn p))] [] ph
  obtain ⟨R, C, rk, sn, sk, cn, cd⟩ := E
  have hL0 : zCl ph R C rk := hE.1
  have hi0 : zCi ph sn sk := hE.2.1
  have hF : F = 11 ∨ F = 16 := hE.2.2.2
  have hE0 : zCe ph (R, C, rk, sn, sk, cn, cd) F := hE
  have hO0 : zOk R C P G v := hO
  have hL := hL0
  have hs := ht.1.2
  have hd := ht.2
  have h25 := ht.1.1
  obtain ⟨gR, gC, gN, gK, gA, hR3, hR7, hC3, hC7⟩ := hL
  have hRC := zRC49 hR7 hC7
  have tR := znt (k := R) (by omega)
  have tC := znt (k := C) (by omega)
  have tRC := znt (k := R * C) (by omega)
  have hd0 := hd
  have hs0 := hs
  obtain ⟨r3, r4, r5, r6, r7, l1, l2, l3, l4, l5⟩ := hs
  obtain ⟨gP, hP8, gG, hG8, gH, gv, gw⟩ := hd
  have tP := znt (k := P) (by omega)
  have tG := znt (k := G) (by omega)
  have h40 := hO0.2.2
  have t40 := znt (k := v 40) (by omega)
  have hc0 := hc
  have tp := znt (k := p) (by omega)
  refine w_load (pc' := 1) (v := .ref S) (m := 1) (ykc_82 (e := (2, .aload_n kF1, 0)) rfl) rfl rfl ?_
  refine w_load (pc' := 2) (v := .int (zn p)) (m := 1) (ykc_82 (e := (2, .iload_n kF2, 0)) rfl) rfl rfl ?_
  refine w_cv (as := [.ref S, .int (zn p)]) (r := []) (ykc_82 (e := (6, .invokevirtual 53, 0)) rfl) rfl rfl rfl rfl (zc_hasP ht.1.2 ht.2 (i := (zn p))) (fun v811 ph812 hv => ?_)
  obtain ⟨rfl, rfl⟩ := hv
  show zW n D 82 Q 5 [some (.ref 10), some (.ref S), some (.int (zn p))] [.int (zI (decide (0 ≤ (zn p).toInt ∧ (zn p).toInt < ((P : Nat) : Int))))] ph
  refine w_beq (ykc_82 (e := (4, .ifCond .eq 18, 23)) rfl) rfl (fun q => by have := of_decide_eq_false q; omega) (fun b813 => ?_)
  refine w_load (pc' := 9) (v := .ref 10) (m := 1) (ykc_82 (e := (2, .aload_n kF0, 0)) rfl) rfl rfl ?_
  refine w_load (pc' := 10) (v := .ref S) (m := 1) (ykc_82 (e := (2, .aload_n kF1, 0)) rfl) rfl rfl ?_
  refine w_load (pc' := 11) (v := .int (zn p)) (m := 1) (ykc_82 (e := (2, .iload_n kF2, 0)) rfl) rfl rfl ?_
  refine w_load (pc' := 12) (v := .ref S) (m := 1) (ykc_82 (e := (2, .aload_n kF1, 0)) rfl) rfl rfl ?_
  refine w_gf (pc' := 15) (v := .ref (S + 3)) (ykc_82 (e := (5, .getfield 59, 0)) rfl) rfl r5 rfl ?_
  refine w_load (pc' := 16) (v := .int (zn p)) (m := 1) (ykc_82 (e := (2, .iload_n kF2, 0)) rfl) rfl rfl ?_
  have q814 := hO0.1 p (by omega)
  have tq814 := znt (k := v (16 + p)) (by omega)
  refine w_ialk (pc' := 17) (k := p) (ykc_82 (e := (5, .iaload, 0)) rfl) (gv p (by omega)).2.2.1 (by omega) rfl ?_
  refine w_cv (as := [.ref 10, .ref S, .int (zn p), .int (zn (v (16 + p)))]) (r := []) (ykc_82 (e := (6, .invokevirtual 111, 0)) rfl) rfl rfl rfl rfl (zc_viewU hS hE0 ht hO0 hr hc0 (p := p) (br := v (16 + p)) (by omega) (by omega)) (fun v817 ph818 hv => ?_)
  obtain ⟨f815, hc816, rfl⟩ := hv
  show zW n D 82 Q 20 [some (.ref 10), some (.ref S), some (.int (zn p))] [.long (zS (zSw (R, C, rk, sn, sk, cn, cd) P v p (v (8 + p)) (v (16 + p))) (R * C))] ph818
  refine w_br (pc' := 24) (st' := [.long (zS (zSw (R, C, rk, sn, sk, cn, cd) P v p (v (8 + p)) (v (16 + p))) (R * C))]) (ykc_82 (e := (4, .goto 4, 24)) rfl) rfl ?_
  refine w_ret (v := (some (.long (zS (zSw (R, C, rk, sn, sk, cn, cd) P v p (v (8 + p)) (v (16 + p))) (R * C))))) (ykc_82 (e := (7, .lreturn, 0)) rfl) (zr_v rfl) ?_
  rw [hQ]
  exact ⟨f815, hc816, rfl⟩
theorem zc_lookR {ph : pm_H} {E : zEn} {F S P G : Nat} {v : Nat → Nat} (hS : zSh ph) (hE : zCe ph E F) (ht : zCt ph S P G v) (hO : zOk E.1 E.2.1 P G v) (hr : zc ph 10 1 = some (.ref F)) (hc : zCc ph E.1 E.2.1 E.2.2.1) : zM 84 [.ref 10, .ref S] ph (fun v0 q => zCx ph q ∧ zCc q E.1 E.2.1 E.2.2.1 ∧ (∀ i, i < P → zc q 23 i = some (.long (zVw E P v i))) ∧ v0 = some (.long (zAll E P v))) := by
  obtain ⟨Q, hQ⟩ : ∃ Q : Option Value → pm_H → Prop, Q = (fun v0 q => zCx ph q ∧ zCc q E.1 E.2.1 E.2.2.1 ∧ (∀ i, i < P → zc q 23 i = some (.long (zVw E P v i))) ∧ v0 = some (.long (zAll E P v))) := ⟨_, rfl⟩
  rw [← hQ]
  refine zM_mk fun n D => ?_
  show zW n D 84 Q 0 [some (.ref 10), some (.ref S)] [] ph
  obtain ⟨R, C, rk, sn, sk, cn, cd⟩ := E
  have hL0 : zCl ph R C rk := hE.1
  have hi0 : zCi ph sn sk := hE.2.1
  have hF : F = 11 ∨ F = 16 := hE.2.2.2
  have hE0 : zCe ph (R, C, rk, sn, sk, cn, cd) F := hE
  have hO0 : zOk R C P G v := hO
  have hL := hL0
  have hs := ht.1.2
  have hd := ht.2
  have h25 := ht.1.1
  obtain ⟨gR, gC, gN, gK, gA, hR3, hR7, hC3, hC7⟩ := hL
  have hRC := zRC49 hR7 hC7
  have tR := znt (k := R) (by omega)
  have tC := znt (k := C) (by omega)
  have tRC := znt (k := R * C) (by omega)
  have hd0 := hd
  have hs0 := hs
  obtain ⟨r3, r4, r5, r6, r7, l1, l2, l3, l4, l5⟩ := hs
  obtain ⟨gP, hP8, gG, hG8, gH, gv, gw⟩ := hd
  have tP := znt (k := P) (by omega)
  have tG := znt (k := G) (by omega)
  have h40 := hO0.2.2
  have t40 := znt (k := v 40) (by omega)
  have hc0 := hc
  refine w_load (pc' := 1) (v := .ref 10) (m := 1) (ykc_84 (e := (2, .aload_n kF0, 0)) rfl) rfl rfl ?_
  refine w_load (pc' := 2) (v := .ref 10) (m := 1) (ykc_84 (e := (2, .aload_n kF0, 0)) rfl) rfl rfl ?_
  refine w_gf (pc' := 5) (v := .ref F) (ykc_84 (e := (5, .getfield 18, 0)) rfl) rfl hr rfl ?_
  refine w_load (pc' := 6) (v := .ref S) (m := 1) (ykc_84 (e := (2, .aload_n kF1, 0)) rfl) rfl rfl ?_
  refine w_cv (as := [.ref 10, .ref F, .ref S]) (r := []) (ykc_84 (e := (6, .invokevirtual 118, 0)) rfl) rfl rfl rfl rfl (zc_look hS hE0 ht hO0 hc0) (fun v819 ph820 hv => ?_)
  obtain ⟨f85, hc85, hv85, rfl⟩ := hv
  show zW n D 84 Q 9 [some (.ref 10), some (.ref S)] [.long (zAll (R, C, rk, sn, sk, cn, cd) P v)] ph820
  refine w_ret (v := (some (.long (zAll (R, C, rk, sn, sk, cn, cd) P v)))) (ykc_84 (e := (7, .lreturn, 0)) rfl) (zr_v rfl) ?_
  rw [hQ]
  exact ⟨f85, hc85, hv85, rfl⟩
theorem zc_viewAt {ph : pm_H} {E : zEn} {F S P G : Nat} {v : Nat → Nat} (hS : zSh ph) (hE : zCe ph E F) (ht : zCt ph S P G v) (hO : zOk E.1 E.2.1 P G v) (hvw : ∀ i, i < P → zc ph 23 i = some (.long (zVw E P v i))) {p : Nat} (hp : p < P) : zM 86 [.ref 10, .int (zn p)] ph (fun v0 q => ph = q ∧ v0 = some (.long (zVw E P v p))) := by
  obtain ⟨Q, hQ⟩ : ∃ Q : Option Value → pm_H → Prop, Q = (fun v0 q => ph = q ∧ v0 = some (.long (zVw E P v p))) := ⟨_, rfl⟩
  rw [← hQ]
  refine zM_mk fun n D => ?_
  show zW n D 86 Q 0 [some (.ref 10), some (.int (zn p))] [] ph
  have c_0 : ((Int8.ofInt 8).toInt32).toInt = 8 := by decide
  obtain ⟨R, C, rk, sn, sk, cn, cd⟩ := E
  have hL0 : zCl ph R C rk := hE.1
  have hi0 : zCi ph sn sk := hE.2.1
  have hF : F = 11 ∨ F = 16 := hE.2.2.2
  have hE0 : zCe ph (R, C, rk, sn, sk, cn, cd) F := hE
  have hO0 : zOk R C P G v := hO
  have hL := hL0
  have hs := ht.1.2
  have hd := ht.2
  have h25 := ht.1.1
  obtain ⟨gR, gC, gN, gK, gA, hR3, hR7, hC3, hC7⟩ := hL
  have hRC := zRC49 hR7 hC7
  have tR := znt (k := R) (by omega)
  have tC := znt (k := C) (by omega)
  have tRC := znt (k := R * C) (by omega)
  have hd0 := hd
  have hs0 := hs
  obtain ⟨r3, r4, r5, r6, r7, l1, l2, l3, l4, l5⟩ := hs
  obtain ⟨gP, hP8, gG, hG8, gH, gv, gw⟩ := hd
  have tP := znt (k := P) (by omega)
  have tG := znt (k := G) (by omega)
  have h40 := hO0.2.2
  have t40 := znt (k := v 40) (by omega)
  have tp := znt (k := p) (by omega)
  refine w_load (pc' := 1) (v := .int (zn p)) (m := 1) (ykc_86 (e := (2, .iload_n kF1, 0)) rfl) rfl rfl ?_
  refine w_zlt (ykc_86 (e := (4, .ifCond .lt 18, 19)) rfl) rfl (fun q => by exfalso; omega) (fun b821 => ?_)
  refine w_load (pc' := 5) (v := .int (zn p)) (m := 1) (ykc_86 (e := (2, .iload_n kF1, 0)) rfl) rfl rfl ?_
  refine w_push (pc' := 7) (v := .int ((Int8.ofInt 8).toInt32)) (m := 2) (ykc_86 (e := (1, .bipush 8, 0)) rfl) rfl rfl ?_
  refine w_ige (ykc_86 (e := (4, .if_icmp .ge 12, 19)) rfl) rfl (fun q => by exfalso; omega) (fun b822 => ?_)
  refine w_load (pc' := 11) (v := .ref 10) (m := 1) (ykc_86 (e := (2, .aload_n kF0, 0)) rfl) rfl rfl ?_
  refine w_gf (pc' := 14) (v := .ref 23) (ykc_86 (e := (5, .getfield 36, 0)) rfl) rfl (zsg hS zs_10_6) rfl ?_
  refine w_load (pc' := 15) (v := .int (zn p)) (m := 1) (ykc_86 (e := (2, .iload_n kF1, 0)) rfl) rfl rfl ?_
  refine w_lalk (pc' := 16) (k := p) (ykc_86 (e := (5, .laload, 0)) rfl) (hvw p (by omega)) (by omega) rfl ?_
  refine w_br (pc' := 20) (st' := [.long (zVw (R, C, rk, sn, sk, cn, cd) P v p)]) (ykc_86 (e := (4, .goto 4, 20)) rfl) rfl ?_
  refine w_ret (v := (some (.long (zVw (R, C, rk, sn, sk, cn, cd) P v p)))) (ykc_86 (e := (7, .lreturn, 0)) rfl) (zr_v rfl) ?_
  rw [hQ]
  exact ⟨rfl, rfl⟩
theorem zc_seers {ph : pm_H} {E : zEn} {F S P G : Nat} {v : Nat → Nat} (hS : zSh ph) (hE : zCe ph E F) (ht : zCt ph S P G v) (hO : zOk E.1 E.2.1 P G v) (hvw : ∀ i, i < P → zc ph 23 i = some (.long (zVw E P v i))) {g : Nat} (hg : g < E.1 * E.2.1) : zM 88 [.ref 10, .ref S, .int (zn g)] ph (fun v0 q => ph = q ∧ v0 = some (.int (zWho E P v g))) := by
  obtain ⟨Q, hQ⟩ : ∃ Q : Option Value → pm_H → Prop, Q = (fun v0 q => ph = q ∧ v0 = some (.int (zWho E P v g))) := ⟨_, rfl⟩
  rw [← hQ]
  refine zM_mk fun n D => ?_
  show zW n D 88 Q 0 [some (.ref 10), some (.ref S), some (.int (zn g)), none, none] [] ph
  have c_0 : ((Int8.ofInt 8).toInt32).toInt = 8 := by decide
  have c_1 : (Int32.ofInt 0).toInt = 0 := by decide
  have c_2 : (Int32.ofInt 1).toInt = 1 := by decide
  obtain ⟨R, C, rk, sn, sk, cn, cd⟩ := E
  have hL0 : zCl ph R C rk := hE.1
  have hi0 : zCi ph sn sk := hE.2.1
  have hF : F = 11 ∨ F = 16 := hE.2.2.2
  have hE0 : zCe ph (R, C, rk, sn, sk, cn, cd) F := hE
  have hO0 : zOk R C P G v := hO
  have hL := hL0
  have hs := ht.1.2
  have hd := ht.2
  have h25 := ht.1.1
  obtain ⟨gR, gC, gN, gK, gA, hR3, hR7, hC3, hC7⟩ := hL
  have hRC := zRC49 hR7 hC7
  have tR := znt (k := R) (by omega)
  have tC := znt (k := C) (by omega)
  have tRC := znt (k := R * C) (by omega)
  have hd0 := hd
  have hs0 := hs
  obtain ⟨r3, r4, r5, r6, r7, l1, l2, l3, l4, l5⟩ := hs
  obtain ⟨gP, hP8, gG, hG8, gH, gv, gw⟩ := hd
  have tP := znt (k := P) (by omega)
  have tG := znt (k := G) (by omega)
  have h40 := hO0.2.2
  have t40 := znt (k := v 40) (by omega)
  have hg : g < R * C := hg
  have tg := znt (k := g) (by omega)
  refine w_alu (pc' := 1) (st' := [.int (Int32.ofInt 0)]) (ykc_88 (e := (0, .iconst 0, 0)) rfl) rfl rfl ?_
  refine w_store (pc' := 2) (L' := [some (.ref 10), some (.ref S), some (.int (zn g)), some (.int (Int32.ofInt 0)), none]) (st' := []) (m := 1) (ykc_88 (e := (3, .istore_n kF3, 0)) rfl) rfl rfl ?_
  refine w_alu (pc' := 3) (st' := [.int (Int32.ofInt 0)]) (ykc_88 (e := (0, .iconst 0, 0)) rfl) rfl rfl ?_
  refine w_store (pc' := 5) (L' := [some (.ref 10), some (.ref S), some (.int (zn g)), some (.int (Int32.ofInt 0)), some (.int (Int32.ofInt 0))]) (st' := []) (m := 2) (ykc_88 (e := (3, .istore 4, 0)) rfl) rfl rfl ?_
  have hl : ∀ (n : Nat), ∀ (k : Nat), (k ≤ P) → zW n D 88 Q 5 [some (.ref 10), some (.ref S), some (.int (zn g)), some (.int (zT (fun p => zSv (R, C, rk, sn, sk, cn, cd) P v p g) k)), some (.int (zn k))] [] ph := by
    intro n
    induction n using Nat.strongRecOn with
    | ind n ih =>
      intro k hk
      have tk := znt (k := k) (by omega)
      refine w_load (pc' := 7) (v := .int (zn k)) (m := 2) (ykc_88 (e := (2, .iload 4, 0)) rfl) rfl rfl ?_
      refine w_load (pc' := 8) (v := .ref S) (m := 1) (ykc_88 (e := (2, .aload_n kF1, 0)) rfl) rfl rfl ?_
      refine w_gf (pc' := 11) (v := .int (zn P)) (ykc_88 (e := (5, .getfield 122, 0)) rfl) rfl gP rfl ?_
      refine w_ige (ykc_88 (e := (4, .if_icmp .ge 34, 45)) rfl) rfl (fun b823 => ?_) (fun b823 => ?_)
      · refine w_load (pc' := 46) (v := .int (zT (fun p => zSv (R, C, rk, sn, sk, cn, cd) P v p g) k)) (m := 1) (ykc_88 (e := (2, .iload_n kF3, 0)) rfl) rfl rfl ?_
        refine w_ret (v := (some (.int (zT (fun p => zSv (R, C, rk, sn, sk, cn, cd) P v p g) k)))) (ykc_88 (e := (7, .ireturn, 0)) rfl) (zr_v rfl) ?_
        have ek : P = k := by omega
        subst ek
        rw [hQ]
        exact ⟨rfl, rfl⟩
      · refine w_load (pc' := 16) (v := .int (zn k)) (m := 2) (ykc_88 (e := (2, .iload 4, 0)) rfl) rfl rfl ?_
        refine w_push (pc' := 18) (v := .int ((Int8.ofInt 8).toInt32)) (m := 2) (ykc_88 (e := (1, .bipush 8, 0)) rfl) rfl rfl ?_
        refine w_ige (ykc_88 (e := (4, .if_icmp .ge 27, 45)) rfl) rfl (fun q => by exfalso; omega) (fun b824 => ?_)
        refine w_load (pc' := 22) (v := .int (zT (fun p => zSv (R, C, rk, sn, sk, cn, cd) P v p g) k)) (m := 1) (ykc_88 (e := (2, .iload_n kF3, 0)) rfl) rfl rfl ?_
        refine w_load (pc' := 23) (v := .ref 10) (m := 1) (ykc_88 (e := (2, .aload_n kF0, 0)) rfl) rfl rfl ?_
        refine w_gf (pc' := 26) (v := .ref 23) (ykc_88 (e := (5, .getfield 36, 0)) rfl) rfl (zsg hS zs_10_6) rfl ?_
        refine w_load (pc' := 28) (v := .int (zn k)) (m := 2) (ykc_88 (e := (2, .iload 4, 0)) rfl) rfl rfl ?_
        refine w_lalk (pc' := 29) (k := k) (ykc_88 (e := (5, .laload, 0)) rfl) (hvw k (by omega)) (by omega) rfl ?_
        refine w_load (pc' := 30) (v := .int (zn g)) (m := 1) (ykc_88 (e := (2, .iload_n kF2, 0)) rfl) rfl rfl ?_
        refine w_alu (pc' := 31) (st' := [.long ((zVw (R, C, rk, sn, sk, cn, cd) P v k) >>> ((zn g).toInt64 &&& 63)), .int (zT (fun p => zSv (R, C, rk, sn, sk, cn, cd) P v p g) k)]) (ykc_88 (e := (0, .lshr, 0)) rfl) rfl rfl ?_
        refine w_alu (pc' := 32) (st' := [.long (Int64.ofNat kG1), .long ((zVw (R, C, rk, sn, sk, cn, cd) P v k) >>> ((zn g).toInt64 &&& 63)), .int (zT (fun p => zSv (R, C, rk, sn, sk, cn, cd) P v p g) k)]) (ykc_88 (e := (0, .lconst kG1, 0)) rfl) rfl rfl ?_
        refine w_alu (pc' := 33) (st' := [.long (((zVw (R, C, rk, sn, sk, cn, cd) P v k) >>> ((zn g).toInt64 &&& 63)) &&& (Int64.ofNat kG1)), .int (zT (fun p => zSv (R, C, rk, sn, sk, cn, cd) P v p g) k)]) (ykc_88 (e := (0, .land, 0)) rfl) rfl rfl ?_
        refine w_alu (pc' := 34) (st' := [.int ((((zVw (R, C, rk, sn, sk, cn, cd) P v k) >>> ((zn g).toInt64 &&& 63)) &&& (Int64.ofNat kG1)).toInt32), .int (zT (fun p => zSv (R, C, rk, sn, sk, cn, cd) P v p g) k)]) (ykc_88 (e := (0, .l2i, 0)) rfl) rfl rfl ?_
        refine w_load (pc' := 36) (v := .int (zn k)) (m := 2) (ykc_88 (e := (2, .iload 4, 0)) rfl) rfl rfl ?_
        refine w_alu (pc' := 37) (st' := [.int (((((zVw (R, C, rk, sn, sk, cn, cd) P v k) >>> ((zn g).toInt64 &&& 63)) &&& (Int64.ofNat kG1)).toInt32) <<< ((zn k) &&& 31)), .int (zT (fun p => zSv (R, C, rk, sn, sk, cn, cd) P v p g) k)]) (ykc_88 (e := (0, .ishl, 0)) rfl) rfl rfl ?_
        refine w_alu (pc' := 38) (st' := [.int ((zT (fun p => zSv (R, C, rk, sn, sk, cn, cd) P v p g) k) ||| (((((zVw (R, C, rk, sn, sk, cn, cd) P v k) >>> ((zn g).toInt64 &&& 63)) &&& (Int64.ofNat kG1)).toInt32) <<< ((zn k) &&& 31)))]) (ykc_88 (e := (0, .ior, 0)) rfl) rfl rfl ?_
        refine w_store (pc' := 39) (L' := [some (.ref 10), some (.ref S), some (.int (zn g)), some (.int ((zT (fun p => zSv (R, C, rk, sn, sk, cn, cd) P v p g) k) ||| (((((zVw (R, C, rk, sn, sk, cn, cd) P v k) >>> ((zn g).toInt64 &&& 63)) &&& (Int64.ofNat kG1)).toInt32) <<< ((zn k) &&& 31)))), some (.int (zn k))]) (st' := []) (m := 1) (ykc_88 (e := (3, .istore_n kF3, 0)) rfl) rfl rfl ?_
        have e825 : (zn k) + Int32.ofInt 1 = zn (k + 1) := (zaddN (a := k) (b := 1) (znt (by omega)) c_2 (by omega))
        have te825 := znt (k := k + 1) (by omega)
        refine w_store (pc' := 42) (L' := [some (.ref 10), some (.ref S), some (.int (zn g)), some (.int ((zT (fun p => zSv (R, C, rk, sn, sk, cn, cd) P v p g) k) ||| (((((zVw (R, C, rk, sn, sk, cn, cd) P v k) >>> ((zn g).toInt64 &&& 63)) &&& (Int64.ofNat kG1)).toInt32) <<< ((zn k) &&& 31)))), some (.int (zn (k + 1)))]) (st' := []) (m := 3) (ykc_88 (e := (3, .iinc 4 1, 0)) rfl) (by rw [← e825]; rfl) rfl ?_
        refine w_gb (ykc_88 (e := (4, .goto (-37), 5)) rfl) (fun k826 hk826 => ?_)
        have et : zT (fun p => zSv (R, C, rk, sn, sk, cn, cd) P v p g) (k + 1) = (zT (fun p => zSv (R, C, rk, sn, sk, cn, cd) P v p g) k) ||| (((((zVw (R, C, rk, sn, sk, cn, cd) P v k) >>> ((zn g).toInt64 &&& 63)) &&& (Int64.ofNat kG1)).toInt32) <<< ((zn k) &&& 31)) := by
          show (zT (fun p => zSv (R, C, rk, sn, sk, cn, cd) P v p g) k ||| bif zSv (R, C, rk, sn, sk, cn, cd) P v k g then _ else _) = _
          rw [zcb (x := zVw (R, C, rk, sn, sk, cn, cd) P v k) (f := g) (by omega) (by omega), zVw_b (E := (R, C, rk, sn, sk, cn, cd)) (show R * C ≤ 64 by omega) hg]
        have h9 := ih k826 hk826 (k + 1) (by omega)
        rw [et] at h9
        exact h9
  exact hl n 0 (Nat.zero_le _)

/-! what ties class and reference: frames; printed by wip/rel/r1.py -/
theorem zc_xget {ph : pm_H} {a i : Nat} {v : Value} (h : xget ph a i = some v) : zc ph a i = some v := by
  unfold xget at h
  unfold zc
  split at h
  · next q fl e => rw [e]; exact h
  · next l e => rw [e]; exact h
  · cases h
theorem zxO_at {m : Int} {w A i ci : Nat} {fts : List ((Int × Int) ⊕ Option Nat)} {ph : pm_H} (hP : xH xX kK m w ph) (ho : xown A = some i) (ht : xkt i = some (some A, .inr (ci, fts))) : ∃ fl, pm_at ph A = some (.inr (ci, fl)) ∧ ∀ (k : Nat) (ft : (Int × Int) ⊕ Option Nat), fts[k]? = some ft → ∃ v, fl[k]? = some v ∧ xftG xX v ft := by
  obtain ⟨s, t, h1, -, h3⟩ := hP A i ho
  rw [show xX.2.1 i = xkt i from rfl, ht] at h1
  cases h1
  exact h3
theorem zxL_at {m : Int} {w A i : Nat} {q : Nat × Nat × Nat × List (Nat × xe) × Nat} {ph : pm_H} (hP : xH xX kK m w ph) (ho : xown A = some i) (ht : xkt i = some (some A, .inl q)) : xcG xX kK m w ph A (.inl q) := by
  obtain ⟨s, t, h1, -, h3⟩ := hP A i ho
  rw [show xX.2.1 i = xkt i from rfl, ht] at h1
  cases h1
  exact h3
theorem zxL_a2 {m : Int} {w A i : Nat} {s : Option Nat} {q : Nat × Nat × Nat × List (Nat × xe) × Nat} {ph : pm_H} (hP : xH xX kK m w ph) (ho : xown A = some i) (ht : xkt i = some (s, .inl q)) : xcG xX kK m w ph A (.inl q) := by
  obtain ⟨s2, t, h1, -, h3⟩ := hP A i ho
  rw [show xX.2.1 i = xkt i from rfl, ht] at h1
  cases h1
  exact h3

theorem zxone_a {m : Int} {w u A a i : Nat} {ph : pm_H} (hP : xH xX kK m w ph) (hu : xone u = some A) (ho : xown a = some i) (hi : i ∈ xsub u) : a = A := by
  unfold xone at hu
  split at hu
  · next i0 hs =>
    rw [hs] at hi
    have ei : i = i0 := by
      rcases List.mem_cons.mp hi with e | e
      · exact e
      · cases e
    subst ei
    split at hu
    · next a0 t0 hk =>
      cases hu
      obtain ⟨s, t, h1, h2, -⟩ := hP a i ho
      rw [show xX.2.1 i = xkt i from rfl, hk] at h1
      cases h1
      exact h2 A rfl
    · cases hu
  · cases hu
/-- the references to the rows of undo and keep -/
def zs44 (ph : pm_H) : Prop := ∀ a k b, 44 ≤ a ∧ a < 154 → zlk zstatL a k = some b → zc ph a k = some (.ref b)
def zScR : Bool := (zstatL.filter (fun e => !(Nat.ble 44 e.1 && Nat.blt e.1 154))).all (fun e => match xown e.1 with
  | some i => (match xkt i with
    | some (some a, .inr (_, fts)) => Nat.beq a e.1 && (match fts[e.2.1]? with
      | some (.inr (some u)) => (match xone u with
        | some b => Nat.beq b e.2.2
        | none => false)
      | _ => false)
    | _ => false)
  | none => false)
def zScL : Bool := zlenL.all (fun e => match xown e.1 with
  | some i => (match xkt i with
    | some (_, .inl (g, n, _)) => Nat.beq n e.2 && (Nat.beq g 0 || (Nat.beq g 1 || (Nat.beq g 2 || Nat.beq g 4)))
    | _ => false)
  | none => false)
theorem zScR_t : zScR = true := by decide +kernel
theorem zScL_t : zScL = true := by decide +kernel
theorem zll_mem : ∀ {l : List (Nat × Nat)} {a n : Nat}, zll l a = some n → (a, n) ∈ l := by
  intro l
  induction l with
  | nil => intro a n h; cases h
  | cons e r ih =>
    intro a n h
    unfold zll at h
    cases hb : Nat.beq e.1 a with
    | true =>
      rw [hb] at h
      have e1 := Nat.eq_of_beq_eq_true hb
      have e2 : e.2 = n := Option.some.inj h
      subst e1 e2
      exact List.mem_cons_self
    | false =>
      rw [hb] at h
      exact List.mem_cons_of_mem _ (ih h)
theorem zSh_of {m : Int} {w : Nat} {ph : pm_H} (hP : xH xX kK m w ph) (h4 : zs44 ph) : zSh ph := by
  refine ⟨fun a k b h => ?_, fun a n h => ?_⟩
  · by_cases e4 : 44 ≤ a ∧ a < 154
    · exact h4 a k b e4 h
    have e5 : (Nat.ble 44 a && Nat.blt a 154) = false := by
      cases hb : (Nat.ble 44 a && Nat.blt a 154) with
      | true =>
        obtain ⟨q1, q2⟩ := (Bool.and_eq_true _ _).mp hb
        exact absurd ⟨Nat.le_of_ble_eq_true q1, Nat.le_of_ble_eq_true q2⟩ e4
      | false => rfl
    have hm4 : (a, k, b) ∈ zstatL.filter (fun e => !(Nat.ble 44 e.1 && Nat.blt e.1 154)) := List.mem_filter.mpr ⟨zlk_mem h, by
      show (!(Nat.ble 44 a && Nat.blt a 154)) = true
      rw [e5]
      rfl⟩
    have c := List.all_eq_true.mp zScR_t _ hm4
    replace c : (match xown a with
      | some i => (match xkt i with
        | some (some a2, .inr (_, fts)) => Nat.beq a2 a && (match fts[k]? with
          | some (.inr (some u)) => (match xone u with
            | some b2 => Nat.beq b2 b
            | none => false)
          | _ => false)
        | _ => false)
      | none => false) = true := c
    split at c
    · next i ho =>
      split at c
      · next a2 ci fts ht =>
        obtain ⟨c1, c2⟩ := (Bool.and_eq_true _ _).mp c
        have ea := Nat.eq_of_beq_eq_true c1
        subst ea
        split at c2
        · next u hf =>
          split at c2
          · next b2 hu =>
            have eb := Nat.eq_of_beq_eq_true c2
            subst eb
            obtain ⟨fl, hat, hfl⟩ := zxO_at hP ho ht
            obtain ⟨v, hv, a3, i3, e3, ho3, hi3⟩ := hfl k _ hf
            have e4 := zxone_a hP hu ho3 hi3
            subst e3 e4
            unfold zc
            rw [hat]
            exact hv
          · cases c2
        · cases c2
      · cases c
    · cases c
  · have c := List.all_eq_true.mp zScL_t _ (zll_mem h)
    replace c : (match xown a with
      | some i => (match xkt i with
        | some (_, .inl (g, n2, _)) => Nat.beq n2 n && (Nat.beq g 0 || (Nat.beq g 1 || (Nat.beq g 2 || Nat.beq g 4)))
        | _ => false)
      | none => false) = true := c
    split at c
    · next i ho =>
      split at c
      · next s2 g n2 q ht =>
        obtain ⟨c2, c3⟩ := (Bool.and_eq_true _ _).mp c
        have en := Nat.eq_of_beq_eq_true c2
        subst en
        have hl := zxL_a2 hP ho ht
        obtain ⟨p, sg, u⟩ := q
        match g, c3, hl with
        | 0, _, hl =>
          obtain ⟨l, h1, h2, -⟩ := hl
          unfold zln
          rw [h1]
          exact congrArg some h2
        | 1, _, hl =>
          obtain ⟨l, h1, h2, -⟩ := hl
          unfold zln
          rw [h1]
          exact congrArg some h2
        | 2, _, hl =>
          obtain ⟨l, h1, h2⟩ := hl
          unfold zln
          rw [h1]
          exact congrArg some h2
        | 4, _, hl =>
          obtain ⟨l, h1, h2, -⟩ := hl
          unfold zln
          rw [h1]
          exact congrArg some h2
        | 3, c3, _ => cases c3
        | _ + 5, c3, _ => cases c3
      · cases c
    · cases c
/-- the two texts, by signs -/
theorem zTX_of {m : Int} {w : Nat} {ph : pm_H} (hP : xH xX kK m w ph) (h : xtie ph) : ∃ (ln : Nat) (t : Nat → Nat), zTc ph ln t ∧ zc ph 170 14 = some (.int (zn ln)) ∧ ln ≤ 80 ∧ ∀ i, i < ln → zc ph 176 i = some (.int (zn (t i))) ∧ t i < 256 := by
  obtain ⟨T, h1, h2, h3⟩ := h
  obtain ⟨x, g1, g2, g3⟩ := xM_fi (k := 14) hP rfl
  have e := xget_int h2 g1
  subst e
  have g2 : (0 : Int) ≤ T.toInt := g2
  have g3 : T.toInt ≤ 80 := g3
  have eT : T = zn T.toInt.toNat := zn_of (by omega)
  obtain ⟨t, ht⟩ : ∃ t : Nat → Nat, ∀ i, i < T.toInt.toNat → xget ph 176 i = some (.int (zn (t i))) ∧ t i < 256 := ⟨fun i => match xget ph 176 i with
    | some (.int x) => x.toInt.toNat
    | _ => 0, fun i hi => by
    obtain ⟨x, hx, hb⟩ := xA_el (A := 176) (k := i) hP rfl rfl (by omega)
    rw [Nat.mod_one] at hb
    have hb : (0 : Int) ≤ x.toInt ∧ x.toInt ≤ 255 := hb
    show xget ph 176 i = some (.int (zn (match xget ph 176 i with
      | some (.int x) => x.toInt.toNat
      | _ => 0))) ∧ (match xget ph 176 i with
      | some (.int x) => x.toInt.toNat
      | _ => 0) < 256
    rw [hx]
    have ex : x = zn x.toInt.toNat := zn_of (by omega)
    exact ⟨congrArg (fun y => some (Value.int y)) ex, by show x.toInt.toNat < 256; omega⟩⟩
  refine ⟨T.toInt.toNat, t, ⟨zc_xget ?_, by omega, fun i hi => ⟨zc_xget ((h3 i (by omega)).trans (ht i hi).1), (ht i hi).2⟩⟩, zc_xget ?_, by omega, fun i hi => ⟨zc_xget (ht i hi).1, (ht i hi).2⟩⟩
  · rw [← eT]; exact h1
  · rw [← eT]; exact h2
/-- the RULE that is held and the one beside it -/
theorem zRef2 {m : Int} {w k : Nat} {ph : pm_H} (hP : xH xX kK m w ph) (hk : k = 1 ∨ k = 2) : ∃ F, zc ph 10 k = some (.ref F) ∧ (F = 11 ∨ F = 16) := by
  obtain ⟨i, ho, ci, fts, ht, hf⟩ : ∃ i, xown 10 = some i ∧ ∃ ci fts, xkt i = some (some 10, .inr (ci, fts)) ∧ fts[k]? = some (.inr (some 200)) := by
    refine ⟨_, rfl, _, _, rfl, ?_⟩
    rcases hk with e | e <;> subst e <;> rfl
  obtain ⟨fl, hat, hfl⟩ := zxO_at hP ho ht
  obtain ⟨v, hv, a, j, e, hoa, hi⟩ := hfl k _ hf
  subst e
  refine ⟨a, by unfold zc; rw [hat]; exact hv, ?_⟩
  obtain ⟨s, t, h1, h2, -⟩ := hP a j hoa
  have hi : j ∈ [77, 82] := hi
  have h1 : xkt j = some (s, t) := h1
  rcases List.mem_cons.mp hi with e | e
  · subst e
    obtain ⟨t2, ht2⟩ : ∃ t2, xkt 77 = some (some 11, t2) := ⟨_, rfl⟩
    rw [ht2] at h1
    cases h1
    exact Or.inl (h2 11 rfl)
  · rw [List.mem_singleton] at e
    subst e
    obtain ⟨t2, ht2⟩ : ∃ t2, xkt 82 = some (some 16, t2) := ⟨_, rfl⟩
    rw [ht2] at h1
    cases h1
    exact Or.inr (h2 16 rfl)
theorem zI_of {x : Int32} (h : 0 ≤ x.toInt ∧ x.toInt ≤ 1) : x = zI (decide (x.toInt = 1)) := by
  refine Int32.toInt_inj.mp ?_
  by_cases e : x.toInt = 1
  · rw [decide_eq_true e, e]; rfl
  · rw [decide_eq_false e, show x.toInt = 0 by omega]; rfl
theorem zFb_of {m : Int} {w A i n p u : Nat} {sg : List (Nat × xe)} {ph : pm_H} (hP : xH xX kK m w ph) (ho : xown A = some i) (ht : xkt i = some (some A, .inl (1, n, p, sg, u))) : ∃ cm : Nat → Bool, ∀ k, k < n → zc ph A k = some (.int (zI (cm k))) := by
  obtain ⟨l, hat, hn, hl⟩ := zxL_at hP ho ht
  refine ⟨fun k => match zc ph A k with
    | some (.int x) => decide (x.toInt = 1)
    | _ => false, fun k hk => ?_⟩
  have hx := List.getElem?_eq_getElem (l := l) (i := k) (by omega)
  have hz : zc ph A k = some (.int (l[k]'(by omega))) := by
    unfold zc
    rw [hat]
    show (l[k]?).map Value.int = _
    rw [hx]
    rfl
  show zc ph A k = some (.int (zI (match zc ph A k with
    | some (.int x) => decide (x.toInt = 1)
    | _ => false)))
  rw [hz]
  exact congrArg (fun y => some (Value.int y)) (zI_of (hl k _ hx))
theorem zFx_of {m : Int} {w F : Nat} {ph : pm_H} (hP : xH xX kK m w ph) (hS : zSh ph) (hF : F = 11 ∨ F = 16) : zFp ph F ∧ ∃ cm, zFb ph F cm := by
  rcases hF with e | e
  · subst e
    obtain ⟨cm, h⟩ := zFb_of (A := 14) hP rfl rfl
    exact ⟨⟨zsg hS zs_11_0, zsg hS zs_11_2, zsg hS zs_11_4⟩, cm, h⟩
  · subst e
    obtain ⟨cm, h⟩ := zFb_of (A := 19) hP rfl rfl
    exact ⟨⟨zsg hS zs_16_0, zsg hS zs_16_2, zsg hS zs_16_4⟩, cm, h⟩
/-! frames -/
/-- the cells of T are as before -/
def zEQ (T : Nat → Nat → Prop) (p q : pm_H) : Prop := ∀ a k, T a k → zc q a k = zc p a k
theorem zEQ_m {T T' : Nat → Nat → Prop} {p q : pm_H} (h : ∀ a k, T' a k → T a k) (e : zEQ T p q) : zEQ T' p q := fun a k ht => e a k (h a k ht)
theorem zEQ_t {T : Nat → Nat → Prop} {p q r : pm_H} (e : zEQ T p q) (f : zEQ T q r) : zEQ T p r := fun a k ht => (f a k ht).trans (e a k ht)
theorem zEQ_F {T : Nat → Nat → Prop} {A : List Nat} {F : List (Nat × Nat)} {p q : pm_H} (f : zFr A F p q) (h : ∀ a k, T a k → a ∉ A ∧ (a, k) ∉ F) : zEQ T p q := fun a k ht => f.1 a k (h a k ht).1 (h a k ht).2
def xshp (i : Nat) : Bool := match xkt i with
  | some (_, .inl (0, _)) => true
  | some (_, .inr _) => true
  | _ => false
theorem xget_zc {m : Int} {w a i k : Nat} {ph : pm_H} (hP : xH xX kK m w ph) (ho : xown a = some i) (hs : xshp i = true) : xget ph a k = zc ph a k := by
  obtain ⟨s, t, h1, -, h3⟩ := hP a i ho
  replace h1 : xkt i = some (s, t) := h1
  unfold xshp at hs
  rw [h1] at hs
  match t, hs, h3 with
  | .inl (0, n, p, sg, u), _, ⟨l, h4, _⟩ => unfold xget zc; simp only [h4]
  | .inr (ci, fts), _, ⟨fl, h4, _⟩ => unfold xget zc; simp only [h4]
def zgchk (bT : Nat → Nat → Bool) (gA : List Nat) (gF : List (Nat × Nat)) (a : Nat) : Bool := match xown a with
  | none => (List.range 51).all (fun k => !bT a k)
  | some i => xmemN gA i || ((List.range 50).all (fun k => !bT a k || (xshp i && xmemP gF i k)) && !bT a 50)
theorem zEQ_of {T : Nat → Nat → Prop} {bT : Nat → Nat → Bool} {gA : List Nat} {gF : List (Nat × Nat)} (hb : ∀ a k, T a k → a < 201 ∧ bT a (min k 50) = true) (c : (List.range 201).all (zgchk bT gA gF) = true) {m m' : Int} {w w' : Nat} {p q : pm_H} (hp : xH xX kK m w p) (hq : xH xX kK m' w' q) (hs : xSame xX gA gF p q) : zEQ T p q := fun a k ht => by
  obtain ⟨ha, hbk⟩ := hb a k ht
  have c1 := List.all_eq_true.mp c a (List.mem_range.mpr ha)
  unfold zgchk at c1
  split at c1
  · have c2 := List.all_eq_true.mp c1 (min k 50) (List.mem_range.mpr (by omega))
    rw [hbk] at c2
    cases c2
  · next i ho =>
    rcases Bool.or_eq_true_iff.mp c1 with c2 | c2
    · have e := hs.1 a i ho (xmemN_in c2)
      unfold zc
      rw [e]
    · obtain ⟨c3, c4⟩ := Bool.and_eq_true_iff.mp c2
      by_cases hk : k < 50
      · have e := List.all_eq_true.mp c3 k (List.mem_range.mpr hk)
        rw [show min k 50 = k by omega] at hbk
        replace e : (!bT a k || (xshp i && xmemP gF i k)) = true := e
        rw [hbk] at e
        replace e : (xshp i && xmemP gF i k) = true := e
        obtain ⟨e1, e2⟩ := Bool.and_eq_true_iff.mp e
        rw [← xget_zc hp ho e1, ← xget_zc hq ho e1]
        exact (hs.2 a i k ho (xmemP_in e2)).symm
      · rw [show min k 50 = 50 by omega] at hbk
        rw [hbk] at c4
        cases c4
theorem xSame_rf {gA : List Nat} {gF : List (Nat × Nat)} {p : pm_H} : xSame xX gA gF p p := ⟨fun _ _ _ _ => rfl, fun _ _ _ _ _ => rfl⟩
theorem xHE_slf {gA : List Nat} {gF : List (Nat × Nat)} {ph : pm_H} : xHE xX gA gF (fun p => xSame xX gA gF ph p) := fun p p' hs hp => ⟨fun a i ha hi => (hp.1 a i ha hi).trans (hs.1 a i ha hi), fun a i k ha hi => (hp.2 a i k ha hi).trans (hs.2 a i k ha hi)⟩
abbrev tL (a k : Nat) : Prop := (a = 5 ∧ k < 4) ∨ a = 6 ∨ a = 7
def bc_L (a k : Nat) : Bool := decide (tL a k)
theorem zbc_L {a k : Nat} (h : tL a k) : a < 201 ∧ tL a (min k 50) := by
  rcases h with h | h | h
  · exact ⟨by omega, (Or.inl ⟨h.1, by have h9 := h.2; omega⟩)⟩
  · exact ⟨by omega, (Or.inr (Or.inl h))⟩
  · exact ⟨by omega, (Or.inr (Or.inr h))⟩
abbrev tN (a k : Nat) : Prop := (a = 25 ∧ k < 3) ∨ (26 ≤ a ∧ a ≤ 30)
def bc_N (a k : Nat) : Bool := decide (tN a k)
theorem zbc_N {a k : Nat} (h : tN a k) : a < 201 ∧ tN a (min k 50) := by
  rcases h with h | h
  · exact ⟨by omega, (Or.inl ⟨h.1, by have h9 := h.2; omega⟩)⟩
  · exact ⟨by omega, (Or.inr ⟨h.1, h.2⟩)⟩
abbrev tH (a k : Nat) : Prop := (a = 43 ∧ (k = 1 ∨ k = 2 ∨ k = 4)) ∨ (a = 0 ∧ k = 14) ∨ (45 ≤ a ∧ a < 135 ∧ ((a - 45) % 6 ≠ 0 ∨ k < 3)) ∨ (136 ≤ a ∧ a < 154 ∧ ((a - 136) % 6 ≠ 0 ∨ k < 3))
def bc_H (a k : Nat) : Bool := decide (tH a k)
theorem zbc_H {a k : Nat} (h : tH a k) : a < 201 ∧ tH a (min k 50) := by
  rcases h with h | h | h | h
  · exact ⟨by omega, (Or.inl ⟨h.1, by have h9 := h.2; omega⟩)⟩
  · exact ⟨by omega, (Or.inr (Or.inl ⟨h.1, by have h9 := h.2; omega⟩))⟩
  · exact ⟨by omega, (Or.inr (Or.inr (Or.inl ⟨h.1, h.2.1, by have h9 := h.2.2; omega⟩)))⟩
  · exact ⟨by omega, (Or.inr (Or.inr (Or.inr ⟨h.1, h.2.1, by have h9 := h.2.2; omega⟩)))⟩
abbrev tI (a k : Nat) : Prop := (a = 10 ∧ k = 4) ∨ a = 21
def bc_I (a k : Nat) : Bool := decide (tI a k)
theorem zbc_I {a k : Nat} (h : tI a k) : a < 201 ∧ tI a (min k 50) := by
  rcases h with h | h
  · exact ⟨by omega, (Or.inl ⟨h.1, by have h9 := h.2; omega⟩)⟩
  · exact ⟨by omega, (Or.inr h)⟩
abbrev tX (a k : Nat) : Prop := (a = 10 ∧ (k = 1 ∨ k = 2)) ∨ ((a = 11 ∨ a = 16) ∧ k = 1) ∨ (a = 156 ∧ (k = 2 ∨ k = 3)) ∨ a = 12 ∨ a = 17 ∨ a = 44 ∨ a = 135 ∨ (45 ≤ a ∧ a < 135 ∧ (a - 45) % 6 = 0 ∧ 3 ≤ k ∧ k < 8) ∨ (136 ≤ a ∧ a < 154 ∧ (a - 136) % 6 = 0 ∧ 3 ≤ k ∧ k < 8)
def bc_X (a k : Nat) : Bool := decide (tX a k)
theorem zbc_X {a k : Nat} (h : tX a k) : a < 201 ∧ tX a (min k 50) := by
  rcases h with h | h | h | h | h | h | h | h | h
  · exact ⟨by omega, (Or.inl ⟨h.1, by have h9 := h.2; omega⟩)⟩
  · exact ⟨by omega, (Or.inr (Or.inl ⟨h.1, by have h9 := h.2; omega⟩))⟩
  · exact ⟨by omega, (Or.inr (Or.inr (Or.inl ⟨h.1, by have h9 := h.2; omega⟩)))⟩
  · exact ⟨by omega, (Or.inr (Or.inr (Or.inr (Or.inl h))))⟩
  · exact ⟨by omega, (Or.inr (Or.inr (Or.inr (Or.inr (Or.inl h)))))⟩
  · exact ⟨by omega, (Or.inr (Or.inr (Or.inr (Or.inr (Or.inr (Or.inl h))))))⟩
  · exact ⟨by omega, (Or.inr (Or.inr (Or.inr (Or.inr (Or.inr (Or.inr (Or.inl h)))))))⟩
  · exact ⟨by omega, (Or.inr (Or.inr (Or.inr (Or.inr (Or.inr (Or.inr (Or.inr (Or.inl ⟨h.1, h.2.1, h.2.2.1, by have h9 := h.2.2.2.1; omega, by have h9 := h.2.2.2.2; omega⟩))))))))⟩
  · exact ⟨by omega, (Or.inr (Or.inr (Or.inr (Or.inr (Or.inr (Or.inr (Or.inr (Or.inr ⟨h.1, h.2.1, h.2.2.1, by have h9 := h.2.2.2.1; omega, by have h9 := h.2.2.2.2; omega⟩))))))))⟩
abbrev tM (a k : Nat) : Prop := (a = 170 ∧ (k = 3 ∨ k = 4 ∨ k = 5 ∨ k = 6 ∨ k = 7 ∨ k = 8 ∨ k = 23 ∨ k = 27 ∨ k = 39)) ∨ (a = 174 ∧ k < 41) ∨ a = 172 ∨ a = 173 ∨ a = 179 ∨ a = 183 ∨ a = 198 ∨ a = 199 ∨ a = 200
def bc_M (a k : Nat) : Bool := decide (tM a k)
theorem zbc_M {a k : Nat} (h : tM a k) : a < 201 ∧ tM a (min k 50) := by
  rcases h with h | h | h | h | h | h | h | h | h
  · exact ⟨by omega, (Or.inl ⟨h.1, by have h9 := h.2; omega⟩)⟩
  · exact ⟨by omega, (Or.inr (Or.inl ⟨h.1, by have h9 := h.2; omega⟩))⟩
  · exact ⟨by omega, (Or.inr (Or.inr (Or.inl h)))⟩
  · exact ⟨by omega, (Or.inr (Or.inr (Or.inr (Or.inl h))))⟩
  · exact ⟨by omega, (Or.inr (Or.inr (Or.inr (Or.inr (Or.inl h)))))⟩
  · exact ⟨by omega, (Or.inr (Or.inr (Or.inr (Or.inr (Or.inr (Or.inl h))))))⟩
  · exact ⟨by omega, (Or.inr (Or.inr (Or.inr (Or.inr (Or.inr (Or.inr (Or.inl h)))))))⟩
  · exact ⟨by omega, (Or.inr (Or.inr (Or.inr (Or.inr (Or.inr (Or.inr (Or.inr (Or.inl h))))))))⟩
  · exact ⟨by omega, (Or.inr (Or.inr (Or.inr (Or.inr (Or.inr (Or.inr (Or.inr (Or.inr h))))))))⟩
abbrev tD (a k : Nat) : Prop := (a = 5 ∧ k = 4) ∨ a = 8 ∨ a = 9
def bc_D (a k : Nat) : Bool := decide (tD a k)
theorem zbc_D {a k : Nat} (h : tD a k) : a < 201 ∧ tD a (min k 50) := by
  rcases h with h | h | h
  · exact ⟨by omega, (Or.inl ⟨h.1, by have h9 := h.2; omega⟩)⟩
  · exact ⟨by omega, (Or.inr (Or.inl h))⟩
  · exact ⟨by omega, (Or.inr (Or.inr h))⟩
abbrev tE (a k : Nat) : Prop := (a = 170 ∧ (k = 8 ∨ k = 23)) ∨ a = 173 ∨ a = 179
def bc_E (a k : Nat) : Bool := decide (tE a k)
theorem zbc_E {a k : Nat} (h : tE a k) : a < 201 ∧ tE a (min k 50) := by
  rcases h with h | h | h
  · exact ⟨by omega, (Or.inl ⟨h.1, by have h9 := h.2; omega⟩)⟩
  · exact ⟨by omega, (Or.inr (Or.inl h))⟩
  · exact ⟨by omega, (Or.inr (Or.inr h))⟩
abbrev tT (a k : Nat) : Prop := (a = 170 ∧ k = 14) ∨ a = 176
def bc_T (a k : Nat) : Bool := decide (tT a k)
theorem zbc_T {a k : Nat} (h : tT a k) : a < 201 ∧ tT a (min k 50) := by
  rcases h with h | h
  · exact ⟨by omega, (Or.inl ⟨h.1, by have h9 := h.2; omega⟩)⟩
  · exact ⟨by omega, (Or.inr h)⟩
abbrev tQ (a k : Nat) : Prop := a = 44 ∨ a = 135 ∨ (45 ≤ a ∧ a < 135 ∧ (a - 45) % 6 = 0 ∧ 3 ≤ k ∧ k < 8) ∨ (136 ≤ a ∧ a < 154 ∧ (a - 136) % 6 = 0 ∧ 3 ≤ k ∧ k < 8)
def bc_Q (a k : Nat) : Bool := decide (tQ a k)
theorem zbc_Q {a k : Nat} (h : tQ a k) : a < 201 ∧ tQ a (min k 50) := by
  rcases h with h | h | h | h
  · exact ⟨by omega, (Or.inl h)⟩
  · exact ⟨by omega, (Or.inr (Or.inl h))⟩
  · exact ⟨by omega, (Or.inr (Or.inr (Or.inl ⟨h.1, h.2.1, h.2.2.1, by have h9 := h.2.2.2.1; omega, by have h9 := h.2.2.2.2; omega⟩)))⟩
  · exact ⟨by omega, (Or.inr (Or.inr (Or.inr ⟨h.1, h.2.1, h.2.2.1, by have h9 := h.2.2.2.1; omega, by have h9 := h.2.2.2.2; omega⟩)))⟩
abbrev tRR (a k : Nat) : Prop := tL a k ∨ tN a k ∨ tH a k ∨ tI a k ∨ tX a k ∨ tM a k
def zAR : List Nat := [2, 3, 9, 13, 28, 29, 30, 33, 34, 35, 36, 37, 49, 50, 54, 59, 60, 78, 83, 111, 112, 113, 114, 115, 117, 118, 119, 120, 121]
def zFR : List (Nat × Nat) := [(0, 3), (0, 4), (0, 5), (0, 6), (0, 7), (0, 8), (0, 23), (0, 27), (0, 39), (4, 0), (4, 1), (4, 2), (4, 3), (4, 4), (4, 5), (4, 6), (4, 7), (4, 8), (4, 9), (4, 10), (4, 11), (4, 12), (4, 13), (4, 14), (4, 15), (4, 16), (4, 17), (4, 18), (4, 19), (4, 20), (4, 21), (4, 22), (4, 23), (4, 24), (4, 25), (4, 26), (4, 27), (4, 28), (4, 29), (4, 30), (4, 31), (4, 32), (4, 33), (4, 34), (4, 35), (4, 36), (4, 37), (4, 38), (4, 39), (4, 40), (31, 14), (32, 0), (32, 1), (32, 2), (48, 0), (48, 1), (48, 2), (48, 3), (53, 1), (53, 2), (53, 4), (58, 1), (58, 2), (58, 4), (63, 2), (63, 3), (77, 1), (82, 1), (110, 0), (110, 1), (110, 2), (110, 3), (110, 4), (110, 5), (110, 6), (110, 7), (116, 0), (116, 1), (116, 2), (116, 3), (116, 4), (116, 5), (116, 6), (116, 7)]
def bRR (a k : Nat) : Bool := bc_L a k || (bc_N a k || (bc_H a k || (bc_I a k || (bc_X a k || (bc_M a k)))))
theorem zbR : ∀ a k, tRR a k → a < 201 ∧ bRR a (min k 50) = true := fun a k h => by
  rcases h with h | h | h | h | h | h
  · exact ⟨(zbc_L h).1, (Bool.or_eq_true_iff.mpr (Or.inl (decide_eq_true (zbc_L h).2)))⟩
  · exact ⟨(zbc_N h).1, (Bool.or_eq_true_iff.mpr (Or.inr (Bool.or_eq_true_iff.mpr (Or.inl (decide_eq_true (zbc_N h).2)))))⟩
  · exact ⟨(zbc_H h).1, (Bool.or_eq_true_iff.mpr (Or.inr (Bool.or_eq_true_iff.mpr (Or.inr (Bool.or_eq_true_iff.mpr (Or.inl (decide_eq_true (zbc_H h).2)))))))⟩
  · exact ⟨(zbc_I h).1, (Bool.or_eq_true_iff.mpr (Or.inr (Bool.or_eq_true_iff.mpr (Or.inr (Bool.or_eq_true_iff.mpr (Or.inr (Bool.or_eq_true_iff.mpr (Or.inl (decide_eq_true (zbc_I h).2)))))))))⟩
  · exact ⟨(zbc_X h).1, (Bool.or_eq_true_iff.mpr (Or.inr (Bool.or_eq_true_iff.mpr (Or.inr (Bool.or_eq_true_iff.mpr (Or.inr (Bool.or_eq_true_iff.mpr (Or.inr (Bool.or_eq_true_iff.mpr (Or.inl (decide_eq_true (zbc_X h).2)))))))))))⟩
  · exact ⟨(zbc_M h).1, (Bool.or_eq_true_iff.mpr (Or.inr (Bool.or_eq_true_iff.mpr (Or.inr (Bool.or_eq_true_iff.mpr (Or.inr (Bool.or_eq_true_iff.mpr (Or.inr (Bool.or_eq_true_iff.mpr (Or.inr (decide_eq_true (zbc_M h).2)))))))))))⟩
theorem zckR : (List.range 201).all (zgchk bRR zAR zFR) = true := by decide +kernel
theorem zEQ_R {m m' : Int} {w w' : Nat} {p q : pm_H} (hp : xH xX kK m w p) (hq : xH xX kK m' w' q) (hs : xSame xX zAR zFR p q) : zEQ tRR p q := zEQ_of zbR zckR hp hq hs
abbrev tPP (a k : Nat) : Prop := tL a k ∨ tN a k ∨ tH a k ∨ tI a k ∨ tX a k ∨ tM a k ∨ tD a k
def zAP : List Nat := [2, 3, 9, 13, 28, 29, 30, 33, 34, 35, 36, 37, 49, 50, 51, 52, 54, 59, 60, 78, 83, 111, 112, 113, 114, 115, 117, 118, 119, 120, 121]
def zFP : List (Nat × Nat) := [(0, 3), (0, 4), (0, 5), (0, 6), (0, 7), (0, 8), (0, 23), (0, 27), (0, 39), (4, 0), (4, 1), (4, 2), (4, 3), (4, 4), (4, 5), (4, 6), (4, 7), (4, 8), (4, 9), (4, 10), (4, 11), (4, 12), (4, 13), (4, 14), (4, 15), (4, 16), (4, 17), (4, 18), (4, 19), (4, 20), (4, 21), (4, 22), (4, 23), (4, 24), (4, 25), (4, 26), (4, 27), (4, 28), (4, 29), (4, 30), (4, 31), (4, 32), (4, 33), (4, 34), (4, 35), (4, 36), (4, 37), (4, 38), (4, 39), (4, 40), (31, 14), (32, 0), (32, 1), (32, 2), (48, 0), (48, 1), (48, 2), (48, 3), (48, 4), (53, 1), (53, 2), (53, 4), (58, 1), (58, 2), (58, 4), (63, 2), (63, 3), (77, 1), (82, 1), (110, 0), (110, 1), (110, 2), (110, 3), (110, 4), (110, 5), (110, 6), (110, 7), (116, 0), (116, 1), (116, 2), (116, 3), (116, 4), (116, 5), (116, 6), (116, 7)]
def bPP (a k : Nat) : Bool := bc_L a k || (bc_N a k || (bc_H a k || (bc_I a k || (bc_X a k || (bc_M a k || (bc_D a k))))))
theorem zbP : ∀ a k, tPP a k → a < 201 ∧ bPP a (min k 50) = true := fun a k h => by
  rcases h with h | h | h | h | h | h | h
  · exact ⟨(zbc_L h).1, (Bool.or_eq_true_iff.mpr (Or.inl (decide_eq_true (zbc_L h).2)))⟩
  · exact ⟨(zbc_N h).1, (Bool.or_eq_true_iff.mpr (Or.inr (Bool.or_eq_true_iff.mpr (Or.inl (decide_eq_true (zbc_N h).2)))))⟩
  · exact ⟨(zbc_H h).1, (Bool.or_eq_true_iff.mpr (Or.inr (Bool.or_eq_true_iff.mpr (Or.inr (Bool.or_eq_true_iff.mpr (Or.inl (decide_eq_true (zbc_H h).2)))))))⟩
  · exact ⟨(zbc_I h).1, (Bool.or_eq_true_iff.mpr (Or.inr (Bool.or_eq_true_iff.mpr (Or.inr (Bool.or_eq_true_iff.mpr (Or.inr (Bool.or_eq_true_iff.mpr (Or.inl (decide_eq_true (zbc_I h).2)))))))))⟩
  · exact ⟨(zbc_X h).1, (Bool.or_eq_true_iff.mpr (Or.inr (Bool.or_eq_true_iff.mpr (Or.inr (Bool.or_eq_true_iff.mpr (Or.inr (Bool.or_eq_true_iff.mpr (Or.inr (Bool.or_eq_true_iff.mpr (Or.inl (decide_eq_true (zbc_X h).2)))))))))))⟩
  · exact ⟨(zbc_M h).1, (Bool.or_eq_true_iff.mpr (Or.inr (Bool.or_eq_true_iff.mpr (Or.inr (Bool.or_eq_true_iff.mpr (Or.inr (Bool.or_eq_true_iff.mpr (Or.inr (Bool.or_eq_true_iff.mpr (Or.inr (Bool.or_eq_true_iff.mpr (Or.inl (decide_eq_true (zbc_M h).2)))))))))))))⟩
  · exact ⟨(zbc_D h).1, (Bool.or_eq_true_iff.mpr (Or.inr (Bool.or_eq_true_iff.mpr (Or.inr (Bool.or_eq_true_iff.mpr (Or.inr (Bool.or_eq_true_iff.mpr (Or.inr (Bool.or_eq_true_iff.mpr (Or.inr (Bool.or_eq_true_iff.mpr (Or.inr (decide_eq_true (zbc_D h).2)))))))))))))⟩
theorem zckP : (List.range 201).all (zgchk bPP zAP zFP) = true := by decide +kernel
theorem zEQ_P {m m' : Int} {w w' : Nat} {p q : pm_H} (hp : xH xX kK m w p) (hq : xH xX kK m' w' q) (hs : xSame xX zAP zFP p q) : zEQ tPP p q := zEQ_of zbP zckP hp hq hs
abbrev tWW (a k : Nat) : Prop := tL a k ∨ tI a k ∨ tX a k ∨ tM a k ∨ tT a k
def zAW : List Nat := [2, 3, 6, 9, 13, 28, 29, 30, 49, 50, 54, 59, 60, 78, 83]
def zFW : List (Nat × Nat) := [(0, 3), (0, 4), (0, 5), (0, 6), (0, 7), (0, 8), (0, 14), (0, 23), (0, 27), (0, 39), (4, 0), (4, 1), (4, 2), (4, 3), (4, 4), (4, 5), (4, 6), (4, 7), (4, 8), (4, 9), (4, 10), (4, 11), (4, 12), (4, 13), (4, 14), (4, 15), (4, 16), (4, 17), (4, 18), (4, 19), (4, 20), (4, 21), (4, 22), (4, 23), (4, 24), (4, 25), (4, 26), (4, 27), (4, 28), (4, 29), (4, 30), (4, 31), (4, 32), (4, 33), (4, 34), (4, 35), (4, 36), (4, 37), (4, 38), (4, 39), (4, 40), (48, 0), (48, 1), (48, 2), (48, 3), (53, 1), (53, 2), (53, 4), (63, 2), (63, 3), (77, 1), (82, 1), (110, 3), (110, 4), (110, 5), (110, 6), (110, 7), (116, 3), (116, 4), (116, 5), (116, 6), (116, 7)]
def bWW (a k : Nat) : Bool := bc_L a k || (bc_I a k || (bc_X a k || (bc_M a k || (bc_T a k))))
theorem zbW : ∀ a k, tWW a k → a < 201 ∧ bWW a (min k 50) = true := fun a k h => by
  rcases h with h | h | h | h | h
  · exact ⟨(zbc_L h).1, (Bool.or_eq_true_iff.mpr (Or.inl (decide_eq_true (zbc_L h).2)))⟩
  · exact ⟨(zbc_I h).1, (Bool.or_eq_true_iff.mpr (Or.inr (Bool.or_eq_true_iff.mpr (Or.inl (decide_eq_true (zbc_I h).2)))))⟩
  · exact ⟨(zbc_X h).1, (Bool.or_eq_true_iff.mpr (Or.inr (Bool.or_eq_true_iff.mpr (Or.inr (Bool.or_eq_true_iff.mpr (Or.inl (decide_eq_true (zbc_X h).2)))))))⟩
  · exact ⟨(zbc_M h).1, (Bool.or_eq_true_iff.mpr (Or.inr (Bool.or_eq_true_iff.mpr (Or.inr (Bool.or_eq_true_iff.mpr (Or.inr (Bool.or_eq_true_iff.mpr (Or.inl (decide_eq_true (zbc_M h).2)))))))))⟩
  · exact ⟨(zbc_T h).1, (Bool.or_eq_true_iff.mpr (Or.inr (Bool.or_eq_true_iff.mpr (Or.inr (Bool.or_eq_true_iff.mpr (Or.inr (Bool.or_eq_true_iff.mpr (Or.inr (decide_eq_true (zbc_T h).2)))))))))⟩
theorem zckW : (List.range 201).all (zgchk bWW zAW zFW) = true := by decide +kernel
theorem zEQ_W {m m' : Int} {w w' : Nat} {p q : pm_H} (hp : xH xX kK m w p) (hq : xH xX kK m' w' q) (hs : xSame xX zAW zFW p q) : zEQ tWW p q := zEQ_of zbW zckW hp hq hs
abbrev tVV (a k : Nat) : Prop := tI a k ∨ tX a k ∨ tM a k ∨ tT a k
def zAV : List Nat := [2, 3, 6, 9, 13, 28, 29, 30, 54, 59, 60, 78, 83]
def zFV : List (Nat × Nat) := [(0, 3), (0, 4), (0, 5), (0, 6), (0, 7), (0, 8), (0, 14), (0, 23), (0, 27), (0, 39), (4, 0), (4, 1), (4, 2), (4, 3), (4, 4), (4, 5), (4, 6), (4, 7), (4, 8), (4, 9), (4, 10), (4, 11), (4, 12), (4, 13), (4, 14), (4, 15), (4, 16), (4, 17), (4, 18), (4, 19), (4, 20), (4, 21), (4, 22), (4, 23), (4, 24), (4, 25), (4, 26), (4, 27), (4, 28), (4, 29), (4, 30), (4, 31), (4, 32), (4, 33), (4, 34), (4, 35), (4, 36), (4, 37), (4, 38), (4, 39), (4, 40), (53, 1), (53, 2), (53, 4), (63, 2), (63, 3), (77, 1), (82, 1), (110, 3), (110, 4), (110, 5), (110, 6), (110, 7), (116, 3), (116, 4), (116, 5), (116, 6), (116, 7)]
def bVV (a k : Nat) : Bool := bc_I a k || (bc_X a k || (bc_M a k || (bc_T a k)))
theorem zbV : ∀ a k, tVV a k → a < 201 ∧ bVV a (min k 50) = true := fun a k h => by
  rcases h with h | h | h | h
  · exact ⟨(zbc_I h).1, (Bool.or_eq_true_iff.mpr (Or.inl (decide_eq_true (zbc_I h).2)))⟩
  · exact ⟨(zbc_X h).1, (Bool.or_eq_true_iff.mpr (Or.inr (Bool.or_eq_true_iff.mpr (Or.inl (decide_eq_true (zbc_X h).2)))))⟩
  · exact ⟨(zbc_M h).1, (Bool.or_eq_true_iff.mpr (Or.inr (Bool.or_eq_true_iff.mpr (Or.inr (Bool.or_eq_true_iff.mpr (Or.inl (decide_eq_true (zbc_M h).2)))))))⟩
  · exact ⟨(zbc_T h).1, (Bool.or_eq_true_iff.mpr (Or.inr (Bool.or_eq_true_iff.mpr (Or.inr (Bool.or_eq_true_iff.mpr (Or.inr (decide_eq_true (zbc_T h).2)))))))⟩
theorem zckV : (List.range 201).all (zgchk bVV zAV zFV) = true := by decide +kernel
theorem zEQ_V {m m' : Int} {w w' : Nat} {p q : pm_H} (hp : xH xX kK m w p) (hq : xH xX kK m' w' q) (hs : xSame xX zAV zFV p q) : zEQ tVV p q := zEQ_of zbV zckV hp hq hs
abbrev tCC (a k : Nat) : Prop := tL a k ∨ tN a k ∨ tH a k ∨ tI a k ∨ tX a k ∨ tD a k ∨ tE a k
def zAC : List Nat := [3, 9, 33, 34, 35, 36, 37, 49, 50, 51, 52, 54, 59, 60, 78, 83, 111, 112, 113, 114, 115, 117, 118, 119, 120, 121]
def zFC : List (Nat × Nat) := [(0, 8), (0, 23), (31, 14), (32, 0), (32, 1), (32, 2), (48, 0), (48, 1), (48, 2), (48, 3), (48, 4), (53, 1), (53, 2), (53, 4), (58, 1), (58, 2), (58, 4), (63, 2), (63, 3), (77, 1), (82, 1), (110, 0), (110, 1), (110, 2), (110, 3), (110, 4), (110, 5), (110, 6), (110, 7), (116, 0), (116, 1), (116, 2), (116, 3), (116, 4), (116, 5), (116, 6), (116, 7)]
def bCC (a k : Nat) : Bool := bc_L a k || (bc_N a k || (bc_H a k || (bc_I a k || (bc_X a k || (bc_D a k || (bc_E a k))))))
theorem zbC : ∀ a k, tCC a k → a < 201 ∧ bCC a (min k 50) = true := fun a k h => by
  rcases h with h | h | h | h | h | h | h
  · exact ⟨(zbc_L h).1, (Bool.or_eq_true_iff.mpr (Or.inl (decide_eq_true (zbc_L h).2)))⟩
  · exact ⟨(zbc_N h).1, (Bool.or_eq_true_iff.mpr (Or.inr (Bool.or_eq_true_iff.mpr (Or.inl (decide_eq_true (zbc_N h).2)))))⟩
  · exact ⟨(zbc_H h).1, (Bool.or_eq_true_iff.mpr (Or.inr (Bool.or_eq_true_iff.mpr (Or.inr (Bool.or_eq_true_iff.mpr (Or.inl (decide_eq_true (zbc_H h).2)))))))⟩
  · exact ⟨(zbc_I h).1, (Bool.or_eq_true_iff.mpr (Or.inr (Bool.or_eq_true_iff.mpr (Or.inr (Bool.or_eq_true_iff.mpr (Or.inr (Bool.or_eq_true_iff.mpr (Or.inl (decide_eq_true (zbc_I h).2)))))))))⟩
  · exact ⟨(zbc_X h).1, (Bool.or_eq_true_iff.mpr (Or.inr (Bool.or_eq_true_iff.mpr (Or.inr (Bool.or_eq_true_iff.mpr (Or.inr (Bool.or_eq_true_iff.mpr (Or.inr (Bool.or_eq_true_iff.mpr (Or.inl (decide_eq_true (zbc_X h).2)))))))))))⟩
  · exact ⟨(zbc_D h).1, (Bool.or_eq_true_iff.mpr (Or.inr (Bool.or_eq_true_iff.mpr (Or.inr (Bool.or_eq_true_iff.mpr (Or.inr (Bool.or_eq_true_iff.mpr (Or.inr (Bool.or_eq_true_iff.mpr (Or.inr (Bool.or_eq_true_iff.mpr (Or.inl (decide_eq_true (zbc_D h).2)))))))))))))⟩
  · exact ⟨(zbc_E h).1, (Bool.or_eq_true_iff.mpr (Or.inr (Bool.or_eq_true_iff.mpr (Or.inr (Bool.or_eq_true_iff.mpr (Or.inr (Bool.or_eq_true_iff.mpr (Or.inr (Bool.or_eq_true_iff.mpr (Or.inr (Bool.or_eq_true_iff.mpr (Or.inr (decide_eq_true (zbc_E h).2)))))))))))))⟩
theorem zckC : (List.range 201).all (zgchk bCC zAC zFC) = true := by decide +kernel
theorem zEQ_C {m m' : Int} {w w' : Nat} {p q : pm_H} (hp : xH xX kK m w p) (hq : xH xX kK m' w' q) (hs : xSame xX zAC zFC p q) : zEQ tCC p q := zEQ_of zbC zckC hp hq hs
abbrev tUU (a k : Nat) : Prop := tL a k ∨ tN a k ∨ tH a k ∨ tX a k ∨ tM a k ∨ tD a k ∨ tT a k
def zAU : List Nat := [2, 3, 6, 9, 13, 28, 29, 30, 33, 34, 35, 36, 37, 49, 50, 51, 52, 59, 60, 78, 83, 111, 112, 113, 114, 115, 117, 118, 119, 120, 121]
def zFU : List (Nat × Nat) := [(0, 3), (0, 4), (0, 5), (0, 6), (0, 7), (0, 8), (0, 14), (0, 23), (0, 27), (0, 39), (4, 0), (4, 1), (4, 2), (4, 3), (4, 4), (4, 5), (4, 6), (4, 7), (4, 8), (4, 9), (4, 10), (4, 11), (4, 12), (4, 13), (4, 14), (4, 15), (4, 16), (4, 17), (4, 18), (4, 19), (4, 20), (4, 21), (4, 22), (4, 23), (4, 24), (4, 25), (4, 26), (4, 27), (4, 28), (4, 29), (4, 30), (4, 31), (4, 32), (4, 33), (4, 34), (4, 35), (4, 36), (4, 37), (4, 38), (4, 39), (4, 40), (31, 14), (32, 0), (32, 1), (32, 2), (48, 0), (48, 1), (48, 2), (48, 3), (48, 4), (53, 1), (53, 2), (58, 1), (58, 2), (58, 4), (63, 2), (63, 3), (77, 1), (82, 1), (110, 0), (110, 1), (110, 2), (110, 3), (110, 4), (110, 5), (110, 6), (110, 7), (116, 0), (116, 1), (116, 2), (116, 3), (116, 4), (116, 5), (116, 6), (116, 7)]
def bUU (a k : Nat) : Bool := bc_L a k || (bc_N a k || (bc_H a k || (bc_X a k || (bc_M a k || (bc_D a k || (bc_T a k))))))
theorem zbU : ∀ a k, tUU a k → a < 201 ∧ bUU a (min k 50) = true := fun a k h => by
  rcases h with h | h | h | h | h | h | h
  · exact ⟨(zbc_L h).1, (Bool.or_eq_true_iff.mpr (Or.inl (decide_eq_true (zbc_L h).2)))⟩
  · exact ⟨(zbc_N h).1, (Bool.or_eq_true_iff.mpr (Or.inr (Bool.or_eq_true_iff.mpr (Or.inl (decide_eq_true (zbc_N h).2)))))⟩
  · exact ⟨(zbc_H h).1, (Bool.or_eq_true_iff.mpr (Or.inr (Bool.or_eq_true_iff.mpr (Or.inr (Bool.or_eq_true_iff.mpr (Or.inl (decide_eq_true (zbc_H h).2)))))))⟩
  · exact ⟨(zbc_X h).1, (Bool.or_eq_true_iff.mpr (Or.inr (Bool.or_eq_true_iff.mpr (Or.inr (Bool.or_eq_true_iff.mpr (Or.inr (Bool.or_eq_true_iff.mpr (Or.inl (decide_eq_true (zbc_X h).2)))))))))⟩
  · exact ⟨(zbc_M h).1, (Bool.or_eq_true_iff.mpr (Or.inr (Bool.or_eq_true_iff.mpr (Or.inr (Bool.or_eq_true_iff.mpr (Or.inr (Bool.or_eq_true_iff.mpr (Or.inr (Bool.or_eq_true_iff.mpr (Or.inl (decide_eq_true (zbc_M h).2)))))))))))⟩
  · exact ⟨(zbc_D h).1, (Bool.or_eq_true_iff.mpr (Or.inr (Bool.or_eq_true_iff.mpr (Or.inr (Bool.or_eq_true_iff.mpr (Or.inr (Bool.or_eq_true_iff.mpr (Or.inr (Bool.or_eq_true_iff.mpr (Or.inr (Bool.or_eq_true_iff.mpr (Or.inl (decide_eq_true (zbc_D h).2)))))))))))))⟩
  · exact ⟨(zbc_T h).1, (Bool.or_eq_true_iff.mpr (Or.inr (Bool.or_eq_true_iff.mpr (Or.inr (Bool.or_eq_true_iff.mpr (Or.inr (Bool.or_eq_true_iff.mpr (Or.inr (Bool.or_eq_true_iff.mpr (Or.inr (Bool.or_eq_true_iff.mpr (Or.inr (decide_eq_true (zbc_T h).2)))))))))))))⟩
theorem zckU : (List.range 201).all (zgchk bUU zAU zFU) = true := by decide +kernel
theorem zEQ_U {m m' : Int} {w w' : Nat} {p q : pm_H} (hp : xH xX kK m w p) (hq : xH xX kK m' w' q) (hs : xSame xX zAU zFU p q) : zEQ tUU p q := zEQ_of zbU zckU hp hq hs
abbrev tSS (a k : Nat) : Prop := tL a k ∨ tX a k
def zAS : List Nat := [49, 50, 59, 60, 78, 83]
def zFS : List (Nat × Nat) := [(48, 0), (48, 1), (48, 2), (48, 3), (53, 1), (53, 2), (63, 2), (63, 3), (77, 1), (82, 1), (110, 3), (110, 4), (110, 5), (110, 6), (110, 7), (116, 3), (116, 4), (116, 5), (116, 6), (116, 7)]
def bSS (a k : Nat) : Bool := bc_L a k || (bc_X a k)
theorem zbS : ∀ a k, tSS a k → a < 201 ∧ bSS a (min k 50) = true := fun a k h => by
  rcases h with h | h
  · exact ⟨(zbc_L h).1, (Bool.or_eq_true_iff.mpr (Or.inl (decide_eq_true (zbc_L h).2)))⟩
  · exact ⟨(zbc_X h).1, (Bool.or_eq_true_iff.mpr (Or.inr (decide_eq_true (zbc_X h).2)))⟩
theorem zckS : (List.range 201).all (zgchk bSS zAS zFS) = true := by decide +kernel
theorem zEQ_S {m m' : Int} {w w' : Nat} {p q : pm_H} (hp : xH xX kK m w p) (hq : xH xX kK m' w' q) (hs : xSame xX zAS zFS p q) : zEQ tSS p q := zEQ_of zbS zckS hp hq hs
abbrev tYY (a k : Nat) : Prop := tM a k ∨ tT a k ∨ tQ a k
def zAY : List Nat := [2, 3, 6, 9, 13, 28, 29, 30, 59, 60]
def zFY : List (Nat × Nat) := [(0, 3), (0, 4), (0, 5), (0, 6), (0, 7), (0, 8), (0, 14), (0, 23), (0, 27), (0, 39), (4, 0), (4, 1), (4, 2), (4, 3), (4, 4), (4, 5), (4, 6), (4, 7), (4, 8), (4, 9), (4, 10), (4, 11), (4, 12), (4, 13), (4, 14), (4, 15), (4, 16), (4, 17), (4, 18), (4, 19), (4, 20), (4, 21), (4, 22), (4, 23), (4, 24), (4, 25), (4, 26), (4, 27), (4, 28), (4, 29), (4, 30), (4, 31), (4, 32), (4, 33), (4, 34), (4, 35), (4, 36), (4, 37), (4, 38), (4, 39), (4, 40), (110, 3), (110, 4), (110, 5), (110, 6), (110, 7), (116, 3), (116, 4), (116, 5), (116, 6), (116, 7)]
def bYY (a k : Nat) : Bool := bc_M a k || (bc_T a k || (bc_Q a k))
theorem zbY : ∀ a k, tYY a k → a < 201 ∧ bYY a (min k 50) = true := fun a k h => by
  rcases h with h | h | h
  · exact ⟨(zbc_M h).1, (Bool.or_eq_true_iff.mpr (Or.inl (decide_eq_true (zbc_M h).2)))⟩
  · exact ⟨(zbc_T h).1, (Bool.or_eq_true_iff.mpr (Or.inr (Bool.or_eq_true_iff.mpr (Or.inl (decide_eq_true (zbc_T h).2)))))⟩
  · exact ⟨(zbc_Q h).1, (Bool.or_eq_true_iff.mpr (Or.inr (Bool.or_eq_true_iff.mpr (Or.inr (decide_eq_true (zbc_Q h).2)))))⟩
theorem zckY : (List.range 201).all (zgchk bYY zAY zFY) = true := by decide +kernel
theorem zEQ_Y {m m' : Int} {w w' : Nat} {p q : pm_H} (hp : xH xX kK m w p) (hq : xH xX kK m' w' q) (hs : xSame xX zAY zFY p q) : zEQ tYY p q := zEQ_of zbY zckY hp hq hs
/-! the parts of the relation over frames -/
theorem zCl_Q {p q : pm_H} {R C : Nat} {rk : Nat → Bool} (h : zEQ tL p q) (g : zCl p R C rk) : zCl q R C rk := by
  obtain ⟨g0, g1, g2, g3, g4, g5⟩ := g
  exact ⟨(h 5 0 (by decide)).trans g0, (h 5 1 (by decide)).trans g1, (h 5 2 (by decide)).trans g2, (h 5 3 (by decide)).trans g3, fun f hf => ⟨(h 6 f (Or.inr (Or.inl rfl))).trans (g4 f hf).1, (h 7 f (Or.inr (Or.inr rfl))).trans (g4 f hf).2⟩, g5⟩
theorem zSd_Q {p q : pm_H} {S P G : Nat} {v : Nat → Nat} (h : ∀ a k, ((a = S ∧ k < 3) ∨ (S + 1 ≤ a ∧ a ≤ S + 5)) → zc q a k = zc p a k) (g : zSd p S P G v) : zSd q S P G v := by
  obtain ⟨g0, gP, g1, gG, g2, g3, g4⟩ := g
  exact ⟨(h S 0 (by omega)).trans g0, gP, (h S 1 (by omega)).trans g1, gG, (h S 2 (by omega)).trans g2, fun i hi => ⟨(h (S + 1) i (by omega)).trans (g3 i hi).1, (h (S + 2) i (by omega)).trans (g3 i hi).2.1, (h (S + 3) i (by omega)).trans (g3 i hi).2.2.1, (h (S + 4) i (by omega)).trans (g3 i hi).2.2.2⟩, fun i hi => (h (S + 5) i (by omega)).trans (g4 i hi)⟩
theorem zSN_Q {p q : pm_H} {P G : Nat} {v : Nat → Nat} (h : zEQ tN p q) (g : zSd p 25 P G v) : zSd q 25 P G v := zSd_Q (fun a k hk => h a k (by omega)) g
theorem zCu_Q {p q : pm_H} {P G nx u : Nat} {w : Nat → Nat → Nat} (h : zEQ tH p q) (g : zCu p P G nx u w) : zCu q P G nx u w := by
  obtain ⟨g0, g1, g2, g3, g4⟩ := g
  refine ⟨(h 43 1 (by decide)).trans g0, g1, (h 43 2 (by decide)).trans g2, g3, fun i hi => zSd_Q (fun a k hk => h a k ?_) (g4 i hi)⟩
  have hj : (nx + 15 - u + i) % 15 < 15 := Nat.mod_lt _ (by decide)
  generalize (nx + 15 - u + i) % 15 = j at hk hj
  exact Or.inr (Or.inr (Or.inl ⟨by omega, by omega, by omega⟩))
theorem zCk_Q {p q : pm_H} {P G fl : Nat} {sv : Nat → Nat → Nat} (h : zEQ tH p q) (g : zCk p P G fl sv) : zCk q P G fl sv := by
  obtain ⟨g0, g1, g4⟩ := g
  exact ⟨(h 43 4 (by decide)).trans g0, g1, fun i hi hb => zSd_Q (fun a k hk => h a k (Or.inr (Or.inr (Or.inr ⟨by omega, by omega, by omega⟩)))) (g4 i hi hb)⟩
theorem zCh_Q {p q : pm_H} {hn : Nat} (h : zEQ tH p q) (g : zCh p hn) : zCh q hn := ⟨(h 0 14 (by decide)).trans g.1, g.2⟩
theorem zKC_Q {p q : pm_H} {R C P G nx u fl hn : Nat} {rk : Nat → Bool} {v : Nat → Nat} {w sv : Nat → Nat → Nat} (hL : zEQ tL p q) (hN : zEQ tN p q) (hH : zEQ tH p q) (g : zKC p R C rk P G v nx u w fl sv hn) : zKC q R C rk P G v nx u w fl sv hn := ⟨zCl_Q hL g.1, zSN_Q hN g.2.1, zCu_Q hH g.2.2.1, zCk_Q hH g.2.2.2.1, zCh_Q hH g.2.2.2.2⟩
theorem zCi_Q {p q : pm_H} {sn : Nat} {sk : Nat → Nat} (h : zEQ tI p q) (g : zCi p sn sk) : zCi q sn sk := ⟨(h 10 4 (by decide)).trans g.1, g.2.1, g.2.2.1, fun i hi => ⟨(h 21 i (Or.inr rfl)).trans (g.2.2.2 i hi).1, (g.2.2.2 i hi).2⟩⟩
theorem zFm_Q {p q : pm_H} {F k : Nat} {c : Nat → Nat} (hS : zSh q) (hF : F = 11 ∨ F = 16) (h : zEQ tX p q) (g : zFm p F k c) : zFm q F k c := by
  obtain ⟨-, -, g2, g3, g4, g5, g6⟩ := g
  rcases hF with e | e
  · subst e
    exact ⟨zsg hS zs_11_0, zsg hS zs_11_8, (h 11 1 (by decide)).trans g2, g3, g4, fun i hi => (h 12 i (by omega)).trans (g5 i hi), g6⟩
  · subst e
    exact ⟨zsg hS zs_16_0, zsg hS zs_16_8, (h 16 1 (by decide)).trans g2, g3, g4, fun i hi => (h 17 i (by omega)).trans (g5 i hi), g6⟩
theorem zCe_Q {p q : pm_H} {E : zEn} {F : Nat} (hS : zSh q) (hL : zEQ tL p q) (hI : zEQ tI p q) (hX : zEQ tX p q) (g : zCe p E F) : zCe q E F := ⟨zCl_Q hL g.1, zCi_Q hI g.2.1, zFm_Q hS g.2.2.2 hX g.2.2.1, g.2.2.2⟩
theorem zBd_Q {p q : pm_H} (h : zEQ tX p q) (g : zBd p) : zBd q := ⟨(h 156 2 (by decide)).trans g.1, (h 156 3 (by decide)).trans g.2⟩
theorem zs44_in {a k b : Nat} (e : 44 ≤ a ∧ a < 154) (h : zlk zstatL a k = some b) : tQ a k := by
  have c := List.all_eq_true.mp (by decide +kernel : zstatL.all (fun e => !(Nat.ble 44 e.1 && Nat.blt e.1 154) || decide (tQ e.1 e.2.1)) = true) _ (zlk_mem h)
  replace c : (!(Nat.ble 44 a && Nat.blt a 154) || decide (tQ a k)) = true := c
  have e5 : (Nat.ble 44 a && Nat.blt a 154) = true := (Bool.and_eq_true _ _).mpr ⟨Nat.ble_eq_true_of_le e.1, Nat.ble_eq_true_of_le e.2⟩
  rw [e5] at c
  exact of_decide_eq_true c
theorem zs44_Qq {p q : pm_H} (h : zEQ tQ p q) (g : zs44 p) : zs44 q := fun a k b e hb => (h a k (zs44_in e hb)).trans (g a k b e hb)
theorem zs44_Q {p q : pm_H} (h : zEQ tX p q) (g : zs44 p) : zs44 q := zs44_Qq (zEQ_m (fun _ _ t => Or.inr (Or.inr (Or.inr (Or.inr (Or.inr t))))) h) g
/-- the class's light and RULE, and what never changes -/
def zXc (p : pm_H) (E : zEn) (F F2 : Nat) : Prop := zCe p E F ∧ zc p 10 1 = some (.ref F) ∧ zc p 10 2 = some (.ref F2) ∧ zBd p ∧ zs44 p
theorem zXc_Q {p q : pm_H} {E : zEn} {F F2 : Nat} {m : Int} {w : Nat} (hq : xH xX kK m w q) (hL : zEQ tL p q) (hI : zEQ tI p q) (hX : zEQ tX p q) (g : zXc p E F F2) : zXc q E F F2 := by
  have h4 := zs44_Q hX g.2.2.2.2
  exact ⟨zCe_Q (zSh_of hq h4) hL hI hX g.1, (hX 10 1 (by decide)).trans g.2.1, (hX 10 2 (by decide)).trans g.2.2.1, zBd_Q hX g.2.2.2.1, h4⟩
theorem zNr_Q {p q : pm_H} {A off : Nat} {v : Nat → Nat} (h : ∀ k, off ≤ k → k < off + 41 → zc q A k = zc p A k) (g : zNr p A off v) : zNr q A off v := fun i hi => (h (off + i) (by omega) (by omega)).trans (g i hi)
theorem zMl_Q {p q : pm_H} {R C : Nat} {rk : Nat → Bool} (h : zEQ tM p q) (g : zMl p R C rk) : zMl q R C rk := ⟨(h 170 3 (by decide)).trans g.1, (h 170 4 (by decide)).trans g.2.1, fun f hf => (h 172 f (by omega)).trans (g.2.2.1 f hf), g.2.2.2⟩
theorem zMp_Q {p q : pm_H} {P G : Nat} (h : zEQ tM p q) (g : zMp p P G) : zMp q P G := ⟨(h 170 5 (by decide)).trans g.1, g.2.1, (h 170 6 (by decide)).trans g.2.2.1, g.2.2.2⟩
theorem zMr_Q {p q : pm_H} {sn cn : Nat} {sk cd : Nat → Nat} (h : zEQ tE p q) (g : zMr p sn sk cn cd) : zMr q sn sk cn cd := by
  obtain ⟨g0, g1, g2, g3, g4, g5, g6⟩ := g
  exact ⟨(h 170 8 (by decide)).trans g0, g1, g2, fun i hi => ⟨(h 173 i (by omega)).trans (g3 i hi).1, (g3 i hi).2⟩, (h 170 23 (by decide)).trans g4, g5, fun i hi => ⟨(h 179 i (by omega)).trans (g6 i hi).1, (g6 i hi).2⟩⟩
theorem zMu_Q {p q : pm_H} {u : Nat} {w : Nat → Nat → Nat} (h : zEQ tM p q) (g : zMu p u w) : zMu q u w := ⟨(h 170 27 (by decide)).trans g.1, g.2.1, fun i hi => zNr_Q (fun k _ _ => h 183 k (by omega)) (g.2.2 i hi)⟩
theorem zMk_Q {p q : pm_H} {ch : Nat} {kp : Nat → Bool} {kc : Nat → Nat} {sv : Nat → Nat → Nat} (h : zEQ tM p q) (g : zMk p ch kp kc sv) : zMk q ch kp kc sv := ⟨(h 170 7 (by decide)).trans g.1, g.2.1, fun i hi => by
  obtain ⟨g0, g1, g2, g3⟩ := g.2.2 i hi
  exact ⟨(h 198 i (by omega)).trans g0, (h 199 i (by omega)).trans g1, g2, fun e => zNr_Q (fun k _ _ => h 200 k (by omega)) (g3 e)⟩⟩
theorem zKM_Q {p q : pm_H} {R C P G u ch hn : Nat} {rk : Nat → Bool} {v : Nat → Nat} {w : Nat → Nat → Nat} {kp : Nat → Bool} {kc : Nat → Nat} {sv : Nat → Nat → Nat} (h : zEQ tM p q) (g : zKM p R C rk P G v u w ch kp kc sv hn) : zKM q R C rk P G v u w ch kp kc sv hn := ⟨zMl_Q h g.1, zMp_Q h g.2.1, zNr_Q (fun k _ _ => h 174 k (by omega)) g.2.2.1, zMu_Q h g.2.2.2.1, zMk_Q h g.2.2.2.2.1, (h 170 39 (by decide)).trans g.2.2.2.2.2.1, g.2.2.2.2.2.2⟩
theorem tEM {a k : Nat} (h : tE a k) : tM a k := by
  rcases h with ⟨h1, h2⟩ | h | h
  · exact Or.inl ⟨h1, by omega⟩
  · exact Or.inr (Or.inr (Or.inr (Or.inl h)))
  · exact Or.inr (Or.inr (Or.inr (Or.inr (Or.inl h))))
theorem zMe_Q {p q : pm_H} {E : zEn} (h : zEQ tM p q) (g : zMe p E) : zMe q E := ⟨zMl_Q h g.1, zMr_Q (zEQ_m (fun _ _ => tEM) h) g.2.1, g.2.2⟩
/-! the land's view -/
theorem zq_at {p q : pm_H} {a k : Nat} (h : pm_at p a = pm_at q a) : zc q a k = zc p a k := by
  unfold zc
  rw [h]
def zqC (p : pm_H) (R C : Nat) (rk : Nat → Bool) : Prop := ∃ x, xget p 5 4 = some (.long x) ∧ ∀ f, f < R * C → zb x f = true → (∀ w, w < 8 → zc p 8 (8 * f + w) = some (.long (zS (zTw C rk f w) (R * C)))) ∧ ∀ d, d < 7 → zc p 9 (7 * f + d) = some (.long (zS (zWi C f d) (R * C)))
theorem zqC_c {p : pm_H} {R C : Nat} {rk : Nat → Bool} (h : zqC p R C rk) : zCc p R C rk := by
  obtain ⟨x, h1, h2⟩ := h
  exact ⟨x, zc_xget h1, h2⟩
theorem zqC_x {p : pm_H} {R C : Nat} {rk : Nat → Bool} {m : Int} {w : Nat} (hP : xH xX kK m w p) (h : zCc p R C rk) : zqC p R C rk := by
  obtain ⟨x, h1, h2⟩ := h
  exact ⟨x, (xget_zc (i := 48) hP rfl rfl).trans h1, h2⟩
theorem zqC_G {gA : List Nat} {gF : List (Nat × Nat)} {R C : Nat} {rk : Nat → Bool} (h1 : xmemN gA 51 = true) (h2 : xmemN gA 52 = true) (h3 : xmemP gF 48 4 = true) : xHE xX gA gF (fun p => zqC p R C rk) := fun p p' hs ⟨x, h, g⟩ => ⟨x, (hs.2 5 48 4 rfl (xmemP_in h3)).symm.trans h, fun f hf hb => ⟨fun w hw => (zq_at (hs.1 8 51 rfl (xmemN_in h1))).trans ((g f hf hb).1 w hw), fun d hd => (zq_at (hs.1 9 52 rfl (xmemN_in h2))).trans ((g f hf hb).2 d hd)⟩⟩
theorem zCc_Q {p q : pm_H} {R C : Nat} {rk : Nat → Bool} (h : zEQ tD p q) (g : zCc p R C rk) : zCc q R C rk := by
  obtain ⟨x, h1, h2⟩ := g
  exact ⟨x, (h 5 4 (by decide)).trans h1, fun f hf hb => ⟨fun w hw => (h 8 _ (Or.inr (Or.inl rfl))).trans ((h2 f hf hb).1 w hw), fun d hd => (h 9 _ (Or.inr (Or.inr rfl))).trans ((h2 f hf hb).2 d hd)⟩⟩
/-- view keeps the frame and what the land keeps of views -/
theorem xPC_F {E0 : pm_H → Prop} (h0 : xHE xX xgA_G19 xgF_G19 E0) {gA : List Nat} {gF : List (Nat × Nat)} {ph : pm_H} {m0 : Int} {w0 R C : Nat} {rk : Nat → Bool} {bT : Nat → Nat → Bool} {T : Nat → Nat → Prop} (hP : xH xX kK m0 w0 ph) (s1 : gA.all (fun i => xmemN xgA_G19 i) = true) (s2 : gF.all (fun p => xmemP xgF_G19 p.1 p.2) = true) (hb : ∀ a k, T a k → a < 201 ∧ bT a (min k 50) = true) (c : (List.range 201).all (zgchk bT gA gF) = true) (tl : ∀ a k, tL a k → T a k) (tx : ∀ a k, tX a k → T a k) (h4 : zs44 ph) (hL : zCl ph R C rk) : xPC (fun p => (E0 p ∧ xSame xX gA gF ph p) ∧ zqC p R C rk) := fun P hPP D hD m hm hW vs p hv hF hx hE => by
  obtain ⟨v, p', a, b, c1, e, f⟩ := xn_48_0 (E := fun p => (E0 p ∧ xSame xX gA gF ph p) ∧ P p) (xHE_and (xHE_and h0 (xHE_sub s1 s2 xHE_slf)) hPP) D hD m hm hW vs p hv hF hx ⟨hE.1.1, hE.2⟩
  have hq := zEQ_of hb c hP hx hE.1.1.2
  have hS' := zSh_of hx (zs44_Q (zEQ_m tx hq) h4)
  have hL' := zCl_Q (zEQ_m tl hq) hL
  match vs, hv, a with
  | [v0, v1, v2, v3, v4], ⟨g0, ⟨x1, e1, _⟩, ⟨x2, e2, _⟩, ⟨x3, e3, _⟩, ⟨x4, e4, _⟩, _⟩, a =>
    have e0 := xaO hx (u := 48) (A := 5) rfl g0
    subst e0 e1 e2 e3 e4
    obtain ⟨-, w2⟩ := zc_viewE hS' hL' (zqC_c hE.1.2) D _ a
    exact ⟨v, p', a, b, ⟨⟨c1.1, zqC_x b w2⟩, c1.2⟩, e, f⟩

/-! what ties class and reference: the relation, looks; printed by wip/rel/r2.py -/
/-- what is kept: the class has a bit, the reference a mark and the count of changes -/
def zKq (fl ch : Nat) (kp : Nat → Bool) (kc : Nat → Nat) (sv svm : Nat → Nat → Nat) : Prop := ∀ i, i < 3 → fl.testBit i = (kp i && decide (kc i = ch)) ∧ (fl.testBit i = true → sv i = svm i)
/-- the RULE's codes; no RULE told: the class holds l - b in codes, the reference none -/
def zQe (cn : Nat) (cd : Nat → Nat) (cm : Nat) (cdm : Nat → Nat) : Prop := (cm = cn ∧ cdm = cd) ∨ (cm = 0 ∧ cn = 3 ∧ cd 0 = 1001 ∧ cd 1 = 1000 ∧ cd 2 = 2004)
abbrev zPar : Type := (Nat × Nat × (Nat → Bool) × Nat × (Nat → Nat)) × (Nat × (Nat → Nat) × Nat × (Nat → Nat)) × (Nat × Nat × Nat × Nat × Nat × Nat × Nat × Nat × Nat) × ((Nat → Nat) × (Nat → Nat → Nat) × (Nat → Nat → Nat) × (Nat → Nat → Nat)) × ((Nat → Bool) × (Nat → Nat))
/-- on paper, after n calls -/
def zPP (n : Nat) (z : zPar) : Prop := match z with
  | ((R, C, rk, sn, sk), (cn, cd, cm, cdm), (F, F2, P, G, nx, u, fl, hn, ch), (v, w, sv, svm), (kp, kc)) => zQe cn cd cm cdm ∧ ((F = 11 ∧ F2 = 16) ∨ (F = 16 ∧ F2 = 11)) ∧ zKq fl ch kp kc sv svm ∧ ch ≤ n ∧ (zOk R C P G v ∧ v 40 ≤ 540 * n) ∧ (∀ i, i < u → zOk R C P G (w i) ∧ w i 40 ≤ 540 * n) ∧ ∀ i, i < 3 → fl.testBit i = true → zOk R C P G (sv i) ∧ sv i 40 ≤ 540 * n
def zCR (p : pm_H) (z : zPar) : Prop := match z with
  | ((R, C, rk, sn, sk), (cn, cd, cm, cdm), (F, F2, P, G, nx, u, fl, hn, ch), (v, w, sv, svm), (kp, kc)) => zKC p R C rk P G v nx u w fl sv hn ∧ zXc p (R, C, rk, sn, sk, cn, cd) F F2
def zMR (p : pm_H) (z : zPar) : Prop := match z with
  | ((R, C, rk, sn, sk), (cn, cd, cm, cdm), (F, F2, P, G, nx, u, fl, hn, ch), (v, w, sv, svm), (kp, kc)) => zKM p R C rk P G v u w ch kp kc svm hn ∧ zMe p (R, C, rk, sn, sk, cm, cdm)
def zCC (p : pm_H) (z : zPar) : Prop := zCc p z.1.1 z.1.2.1 z.1.2.2.1
def xRE (n : Nat) (z : zPar) (p : pm_H) : Prop := xLE n p ∧ zPP n z ∧ (zCR p z ∧ zCC p z) ∧ zMR p z
def xRI (n : Nat) (ph : pm_H) : Prop := xH xX kK (xLm n) 0 ph ∧ ∃ z, xRE n z ph
theorem zPP_le {n : Nat} {z : zPar} (h : zPP n z) : zPP (n + 1) z := by
  obtain ⟨⟨R, C, rk, sn, sk⟩, ⟨cn, cd, cm, cdm⟩, ⟨F, F2, P, G, nx, u, fl, hn, ch⟩, ⟨v, w, sv, svm⟩, kp, kc⟩ := z
  obtain ⟨h1, h2, h3, h4, h5, h6, h7⟩ := h
  exact ⟨h1, h2, h3, by omega, ⟨h5.1, by omega⟩, fun i hi => ⟨(h6 i hi).1, by have := (h6 i hi).2; omega⟩, fun i hi hb => ⟨(h7 i hi hb).1, by have := (h7 i hi hb).2; omega⟩⟩
theorem xLE_le {n : Nat} {p : pm_H} (h : xLE n p) : xLE (n + 1) p := ⟨h.1, xINV_le (Nat.le_succ n) h.2⟩
theorem zCR_l {p : pm_H} {z : zPar} (h : zCR p z) : zCl p z.1.1 z.1.2.1 z.1.2.2.1 := by
  obtain ⟨⟨R, C, rk, sn, sk⟩, ⟨cn, cd, cm, cdm⟩, ⟨F, F2, P, G, nx, u, fl, hn, ch⟩, ⟨v, w, sv, svm⟩, kp, kc⟩ := z
  exact h.1.1
theorem zCR_4 {p : pm_H} {z : zPar} (h : zCR p z) : zs44 p := by
  obtain ⟨⟨R, C, rk, sn, sk⟩, ⟨cn, cd, cm, cdm⟩, ⟨F, F2, P, G, nx, u, fl, hn, ch⟩, ⟨v, w, sv, svm⟩, kp, kc⟩ := z
  exact h.2.2.2.2.2
theorem zCR_Q {p q : pm_H} {z : zPar} {m : Int} {w0 : Nat} (hq : xH xX kK m w0 q) (h : zEQ tRR p q) (g : zCR p z) : zCR q z := by
  obtain ⟨⟨R, C, rk, sn, sk⟩, ⟨cn, cd, cm, cdm⟩, ⟨F, F2, P, G, nx, u, fl, hn, ch⟩, ⟨v, w, sv, svm⟩, kp, kc⟩ := z
  exact ⟨zKC_Q (zEQ_m (fun _ _ t => Or.inl t) h) (zEQ_m (fun _ _ t => Or.inr (Or.inl t)) h) (zEQ_m (fun _ _ t => Or.inr (Or.inr (Or.inl t))) h) g.1, zXc_Q hq (zEQ_m (fun _ _ t => Or.inl t) h) (zEQ_m (fun _ _ t => Or.inr (Or.inr (Or.inr (Or.inl t)))) h) (zEQ_m (fun _ _ t => Or.inr (Or.inr (Or.inr (Or.inr (Or.inl t))))) h) g.2⟩
theorem zMR_Q {p q : pm_H} {z : zPar} (h : zEQ tM p q) (g : zMR p z) : zMR q z := by
  obtain ⟨⟨R, C, rk, sn, sk⟩, ⟨cn, cd, cm, cdm⟩, ⟨F, F2, P, G, nx, u, fl, hn, ch⟩, ⟨v, w, sv, svm⟩, kp, kc⟩ := z
  exact ⟨zKM_Q h g.1, zMe_Q h g.2⟩
theorem zRM {a k : Nat} (h : tM a k) : tRR a k := Or.inr (Or.inr (Or.inr (Or.inr (Or.inr h))))
theorem xRE_S {n : Nat} {z : zPar} {p : pm_H} {m : Int} {w0 : Nat} (hP : xH xX kK m w0 p) (h : xRE n z p) : zSh p := zSh_of hP (zCR_4 h.2.2.1.1)
/-- all cells of the relation as before -/
theorem xRE_Q {n : Nat} {z : zPar} {p q : pm_H} {m : Int} {w0 : Nat} (hq : xH xX kK m w0 q) (hE : xLE (n + 1) q) (h : zEQ tPP p q) (g : xRE n z p) : xRE (n + 1) z q := by
  have hR : zEQ tRR p q := zEQ_m (fun a k t => by
    rcases t with t | t | t | t | t | t
    · exact Or.inl t
    · exact Or.inr (Or.inl t)
    · exact Or.inr (Or.inr (Or.inl t))
    · exact Or.inr (Or.inr (Or.inr (Or.inl t)))
    · exact Or.inr (Or.inr (Or.inr (Or.inr (Or.inl t))))
    · exact Or.inr (Or.inr (Or.inr (Or.inr (Or.inr (Or.inl t)))))) h
  exact ⟨hE, zPP_le g.2.1, ⟨zCR_Q hq hR g.2.2.1.1, zCc_Q (zEQ_m (fun a k t => Or.inr (Or.inr (Or.inr (Or.inr (Or.inr (Or.inr t)))))) h) g.2.2.1.2⟩, zMR_Q (zEQ_m (fun _ _ t => zRM t) hR) g.2.2.2⟩
/-! looks -/
theorem zvR1 : zAR.all (fun i => xmemN xgA_G19 i) = true := by decide +kernel
theorem zvR2 : zFR.all (fun p => xmemP xgF_G19 p.1 p.2) = true := by decide +kernel
def xRc (j : Nat) (as : List Value) (Q : Value → Prop) : Prop := ∀ n, n ≤ 512 → ∀ z ph, xH xX kK (xLm n) 0 ph → xRE n z ph → ∃ v ph', pm_Rd kK false 600 j (.ref 0 :: as) ph (some v, ph', 0, 0) ∧ Q v ∧ xH xX kK (xLm n) 0 ph' ∧ xRE n z ph'
def xRm (j : Nat) (as : List Value) (Q : Value → Prop) : Prop := ∀ n, n ≤ 512 → ∀ z ph, xH xX kK (xLm n) 0 ph → xRE n z ph → ∃ v ph', pm_Rd kK false 600 j (.ref 170 :: as) ph (some v, ph', 0, 0) ∧ Q v ∧ xH xX kK (xLm (n + 1)) 0 ph' ∧ xRE (n + 1) z ph'
def xRs (j1 j2 : Nat) (as : List Value) (Q : Value → Value → Prop) : Prop := ∀ n, n ≤ 512 → ∀ ph, xRI n ph → ∃ v1 v2 ph1 ph2, ((∃ f, pm_at ph 0 = some (.inr (12, f))) ∧ ∃ f, pm_at ph1 170 = some (.inr (13, f))) ∧ pm_Rd kK false 600 j1 (.ref 0 :: as) ph (some v1, ph1, 0, 0) ∧ pm_Rd kK false 600 j2 (.ref 170 :: as) ph1 (some v2, ph2, 0, 0) ∧ Q v1 v2 ∧ xRI (n + 1) ph2
theorem xRcls {d j : Nat} {gA : List Nat} {gF : List (Nat × Nat)} {pre : List xh} {res : Option xh} {fq : List (Nat × xh)} {as : List Value} {Q : Value → Prop} (hle : ∀ n, xHE xX gA gF (xLE n)) (s1 : zAR.all (fun i => xmemN gA i) = true) (s2 : zFR.all (fun p => xmemP gF p.1 p.2) = true) (s3 : (xmemN gA 51 && xmemN gA 52 && xmemP gF 48 4) = true) (hm : ∀ {E : pm_H → Prop}, xHE xX gA gF E → xPC E → xcon xX kK E d j pre [] 0 res fq) (hd : d ≤ 600) (hv : ∀ m, xhV xX m (.ref 0 :: as) pre) (hr : ∀ m v, xhR xX m v res → ∃ u, v = some u ∧ Q u) : xRc j as Q := fun n hn z ph hP hR => by
  obtain ⟨s34, s5⟩ := Bool.and_eq_true_iff.mp s3
  obtain ⟨s3, s4⟩ := Bool.and_eq_true_iff.mp s34
  have h4 := zCR_4 hR.2.2.1.1
  obtain ⟨v0, ph', a, b, c, e, -⟩ := hm (E := fun p => (xLE n p ∧ xSame xX zAR zFR ph p) ∧ zqC p z.1.1 z.1.2.1 z.1.2.2.1) (xHE_and (xHE_and (hle n) (xHE_sub s1 s2 xHE_slf)) (zqC_G s3 s4 s5)) (xPC_F (xLE_G19 n) hP zvR1 zvR2 zbR zckR (fun _ _ t => Or.inl t) (fun _ _ t => Or.inr (Or.inr (Or.inr (Or.inr (Or.inl t))))) h4 (zCR_l hR.2.2.1.1)) 600 hd (xLm n) (xLm_le (by omega)) xLm_0 _ ph (hv _) (fun _ _ h => absurd h List.not_mem_nil) hP ⟨⟨hR.1, xSame_rf⟩, zqC_x hP hR.2.2.1.2⟩
  obtain ⟨u, rfl, q⟩ := hr _ _ e
  have hq := zEQ_R hP b c.1.2
  exact ⟨u, ph', a, q, b, c.1.1, hR.2.1, ⟨zCR_Q b hq hR.2.2.1.1, zqC_c c.2⟩, zMR_Q (zEQ_m (fun _ _ t => zRM t) hq) hR.2.2.2⟩
theorem xRmod {d j W : Nat} {gA : List Nat} {gF : List (Nat × Nat)} {pre : List xh} {res : Option xh} {fq : List (Nat × xh)} {as : List Value} {Q : Value → Prop} (hle : ∀ n, xHE xX gA gF (xLE n)) (s1 : zAP.all (fun i => xmemN gA i) = true) (s2 : zFP.all (fun p => xmemP gF p.1 p.2) = true) (hm : ∀ (n : Nat) (E : pm_H → Prop), xHE xX gA gF E → (∀ p, E p → xLE n p) → xcon xX kK E d j pre [] W res fq) (hd : d ≤ 600) (hW : W ≤ 540) (hv : ∀ m, xhV xX m (.ref 170 :: as) pre) (hr : ∀ m v, xhR xX m v res → ∃ u, v = some u ∧ Q u) : xRm j as Q := fun n hn z ph hP hR => by
  obtain ⟨v0, ph', a, b, c, e, -⟩ := hm n (fun p => xLE n p ∧ xSame xX zAP zFP ph p) (xHE_and (hle n) (xHE_sub s1 s2 xHE_slf)) (fun _ q => q.1) 600 hd (xLm (n + 1)) (xLm_le (by omega)) (xLm_s hW) _ ph (hv _) (fun _ _ h => absurd h List.not_mem_nil) (xshift hP hW) ⟨hR.1, xSame_rf⟩
  obtain ⟨u, rfl, q⟩ := hr _ _ e
  exact ⟨u, ph', a, q, b, xRE_Q b (xLE_le c.1) (zEQ_P hP b c.2) hR⟩
theorem xRboth {j1 j2 : Nat} {as : List Value} {Q1 Q2 : Value → Prop} (hc : xRc j1 as Q1) (hm : xRm j2 as Q2) : xRs j1 j2 as (fun a b => Q1 a ∧ Q2 b) := fun n hn ph ⟨hP, z, hR⟩ => by
  obtain ⟨v1, ph1, a1, q1, h1, r1⟩ := hc n hn z ph hP hR
  obtain ⟨v2, ph2, a2, q2, h2, r2⟩ := hm n hn z ph1 h1 r1
  exact ⟨v1, v2, ph1, ph2, ⟨xat0 hP, xat170 h1⟩, a1, a2, ⟨q1, q2⟩, h2, z, r2⟩
/-- the answers are alike: each is what is said of the relation's numbers -/
theorem xRjoin {j1 j2 : Nat} {as : List Value} {K : Value → Prop} {fc fm : zPar → Value} (hc : xRc j1 as K) (hm : xRm j2 as K) (w1 : ∀ n z ph, n ≤ 512 → zSh ph → xRE n z ph → zM j1 (.ref 0 :: as) ph (fun v _ => v = some (fc z))) (w2 : ∀ n z ph, n ≤ 512 → zSh ph → xRE n z ph → zM j2 (.ref 170 :: as) ph (fun v _ => v = some (fm z))) (hq : ∀ n z ph, xRE n z ph → fc z = fm z) : xRs j1 j2 as (fun a b => K a ∧ a = b) := fun n hn ph ⟨hP, z, hR⟩ => by
  obtain ⟨v1, ph1, a1, q1, h1, r1⟩ := hc n hn z ph hP hR
  obtain ⟨v2, ph2, a2, q2, h2, r2⟩ := hm n hn z ph1 h1 r1
  have e1 : some v1 = some (fc z) := w1 n z ph hn (xRE_S hP hR) hR 600 _ a1
  have e2 : some v2 = some (fm z) := w2 n z ph1 hn (xRE_S h1 r1) r1 600 _ a2
  have e3 : v1 = v2 := (Option.some.inj e1).trans ((hq n z ph hR).trans (Option.some.inj e2).symm)
  exact ⟨v1, v2, ph1, ph2, ⟨xat0 hP, xat170 h1⟩, a1, a2, ⟨q1, e3⟩, h2, z, r2⟩
/-! what is reckoned from the relation is the same on both sides -/
section ZQ
variable {R C sn cn cm : Nat} {rk : Nat → Bool} {sk cd cdm : Nat → Nat}
theorem zQ_val {as : Nat → Int32} (h : zQe cn cd cm cdm) : zval as cn cd = zval as cm cdm := by
  rcases h with ⟨e1, e2⟩ | ⟨e1, e2, e3, e4, e5⟩
  · rw [e1, e2]
  · subst e1 e2
    have t1 : ztp cd 1 = 1 := by
      show (if cd 0 = 3000 then ztp cd 0 else if 2000 ≤ cd 0 then ztp cd 0 - 1 else ztp cd 0 + 1) = 1
      rw [e3]
      rfl
    have t2 : ztp cd 2 = 2 := by
      show (if cd 1 = 3000 then ztp cd 1 else if 2000 ≤ cd 1 then ztp cd 1 - 1 else ztp cd 1 + 1) = 2
      rw [e4, t1]
      rfl
    have s1 : zsk as cd 1 = zup (zsk as cd 0) 0 (as 1) := by
      show (if cd 0 = 3000 then zup (zsk as cd 0) (ztp cd 0 - 1) (-(zsk as cd 0 (ztp cd 0 - 1))) else if 2000 ≤ cd 0 then zup (zsk as cd 0) (ztp cd 0 - 2) (zwk (cd 0 - 2000) (zsk as cd 0 (ztp cd 0 - 2)) (zsk as cd 0 (ztp cd 0 - 1))) else zup (zsk as cd 0) (ztp cd 0) (if 1000 ≤ cd 0 then as (cd 0 - 1000) else zn (cd 0))) = _
      rw [e3]
      rfl
    have s2 : zsk as cd 2 = zup (zup (zsk as cd 0) 0 (as 1)) 1 (as 0) := by
      show (if cd 1 = 3000 then zup (zsk as cd 1) (ztp cd 1 - 1) (-(zsk as cd 1 (ztp cd 1 - 1))) else if 2000 ≤ cd 1 then zup (zsk as cd 1) (ztp cd 1 - 2) (zwk (cd 1 - 2000) (zsk as cd 1 (ztp cd 1 - 2)) (zsk as cd 1 (ztp cd 1 - 1))) else zup (zsk as cd 1) (ztp cd 1) (if 1000 ≤ cd 1 then as (cd 1 - 1000) else zn (cd 1))) = _
      rw [e4, t1, s1]
      rfl
    show zsk as cd 3 0 = as 1 - as 0
    show (if cd 2 = 3000 then zup (zsk as cd 2) (ztp cd 2 - 1) (-(zsk as cd 2 (ztp cd 2 - 1))) else if 2000 ≤ cd 2 then zup (zsk as cd 2) (ztp cd 2 - 2) (zwk (cd 2 - 2000) (zsk as cd 2 (ztp cd 2 - 2)) (zsk as cd 2 (ztp cd 2 - 1))) else zup (zsk as cd 2) (ztp cd 2) (if 1000 ≤ cd 2 then as (cd 2 - 1000) else zn (cd 2))) 0 = _
    rw [e5, t2, s2]
    rfl
theorem zQ_Re (h : zQe cn cd cm cdm) : zRe (R, C, rk, sn, sk, cn, cd) = zRe (R, C, rk, sn, sk, cm, cdm) := by
  funext P v p br
  show zrc (zval (zas (R, C, rk, sn, sk, cn, cd) P v p br) cn cd) = zrc (zval (zas (R, C, rk, sn, sk, cm, cdm) P v p br) cm cdm)
  rw [show zas (R, C, rk, sn, sk, cn, cd) P v p br = zas (R, C, rk, sn, sk, cm, cdm) P v p br from rfl, zQ_val h]
theorem zQ_Sw (h : zQe cn cd cm cdm) : zSw (R, C, rk, sn, sk, cn, cd) = zSw (R, C, rk, sn, sk, cm, cdm) := by
  funext P v p fc br g
  show zsee C rk (v p) g fc br (zRe (R, C, rk, sn, sk, cn, cd) P v p br) = zsee C rk (v p) g fc br (zRe (R, C, rk, sn, sk, cm, cdm) P v p br)
  rw [zQ_Re h]
theorem zQ_Sv (h : zQe cn cd cm cdm) : zSv (R, C, rk, sn, sk, cn, cd) = zSv (R, C, rk, sn, sk, cm, cdm) := by
  funext P v p g
  show zSw (R, C, rk, sn, sk, cn, cd) P v p (v (8 + p)) (v (16 + p)) g = zSw (R, C, rk, sn, sk, cm, cdm) P v p (v (8 + p)) (v (16 + p)) g
  rw [zQ_Sw h]
theorem zQ_Vw (h : zQe cn cd cm cdm) : zVw (R, C, rk, sn, sk, cn, cd) = zVw (R, C, rk, sn, sk, cm, cdm) := by
  funext P v p
  show zS (zSv (R, C, rk, sn, sk, cn, cd) P v p) (R * C) = zS (zSv (R, C, rk, sn, sk, cm, cdm) P v p) (R * C)
  rw [zQ_Sv h]
theorem zQ_All (h : zQe cn cd cm cdm) : zAll (R, C, rk, sn, sk, cn, cd) = zAll (R, C, rk, sn, sk, cm, cdm) := by
  funext P v
  show zU (zVw (R, C, rk, sn, sk, cn, cd) P v) P = zU (zVw (R, C, rk, sn, sk, cm, cdm) P v) P
  rw [zQ_Vw h]
theorem zQ_Who (h : zQe cn cd cm cdm) : zWho (R, C, rk, sn, sk, cn, cd) = zWho (R, C, rk, sn, sk, cm, cdm) := by
  funext P v g
  show zT (fun p => zSv (R, C, rk, sn, sk, cn, cd) P v p g) P = zT (fun p => zSv (R, C, rk, sn, sk, cm, cdm) P v p g) P
  rw [zQ_Sv h]
theorem zQ_Meet (h : zQe cn cd cm cdm) : zMeet (R, C, rk, sn, sk, cn, cd) = zMeet (R, C, rk, sn, sk, cm, cdm) := by
  funext P v a b
  show (zSv (R, C, rk, sn, sk, cn, cd) P v a (v b) && zSv (R, C, rk, sn, sk, cn, cd) P v b (v a)) = (zSv (R, C, rk, sn, sk, cm, cdm) P v a (v b) && zSv (R, C, rk, sn, sk, cm, cdm) P v b (v a))
  rw [zQ_Sv h]
theorem zQ_Tell (h : zQe cn cd cm cdm) : zTell (R, C, rk, sn, sk, cn, cd) = zTell (R, C, rk, sn, sk, cm, cdm) := by
  funext P v a b
  show (zNear C (v a) (v b) && zMeet (R, C, rk, sn, sk, cn, cd) P v a b) = (zNear C (v a) (v b) && zMeet (R, C, rk, sn, sk, cm, cdm) P v a b)
  rw [zQ_Meet h]
theorem zQ_Hb (h : zQe cn cd cm cdm) : zHb (R, C, rk, sn, sk, cn, cd) = zHb (R, C, rk, sn, sk, cm, cdm) := by
  funext P G v p
  show v (24 + p) ||| zNs (fun t => zb (zVw (R, C, rk, sn, sk, cn, cd) P v p) (v (32 + t))) G = v (24 + p) ||| zNs (fun t => zb (zVw (R, C, rk, sn, sk, cm, cdm) P v p) (v (32 + t))) G
  rw [zQ_Vw h]
theorem zQ_Li (h : zQe cn cd cm cdm) : zLi (R, C, rk, sn, sk, cn, cd) = zLi (R, C, rk, sn, sk, cm, cdm) := by
  funext P G v p k
  induction k with
  | zero =>
    show zHb (R, C, rk, sn, sk, cn, cd) P G v p = zHb (R, C, rk, sn, sk, cm, cdm) P G v p
    rw [zQ_Hb h]
  | succ k ih =>
    show (bif zTell (R, C, rk, sn, sk, cn, cd) P v p k then zLi (R, C, rk, sn, sk, cn, cd) P G v p k ||| v (24 + k) else zLi (R, C, rk, sn, sk, cn, cd) P G v p k) = (bif zTell (R, C, rk, sn, sk, cm, cdm) P v p k then zLi (R, C, rk, sn, sk, cm, cdm) P G v p k ||| v (24 + k) else zLi (R, C, rk, sn, sk, cm, cdm) P G v p k)
    rw [zQ_Tell h, ih]
theorem zQ_Hq (h : zQe cn cd cm cdm) : zHq (R, C, rk, sn, sk, cn, cd) = zHq (R, C, rk, sn, sk, cm, cdm) := by
  funext P G v i
  show (if 24 ≤ i ∧ i < 24 + P then zLi (R, C, rk, sn, sk, cn, cd) P G v (i - 24) P else if i = 40 then v 40 + 1 else v i) = (if 24 ≤ i ∧ i < 24 + P then zLi (R, C, rk, sn, sk, cm, cdm) P G v (i - 24) P else if i = 40 then v 40 + 1 else v i)
  rw [zQ_Li h]
theorem zQ_Hqn (h : zQe cn cd cm cdm) : zHqn (R, C, rk, sn, sk, cn, cd) = zHqn (R, C, rk, sn, sk, cm, cdm) := by
  funext P G v n
  induction n with
  | zero => rfl
  | succ n ih =>
    show zHq (R, C, rk, sn, sk, cn, cd) P G (zHqn (R, C, rk, sn, sk, cn, cd) P G v n) = zHq (R, C, rk, sn, sk, cm, cdm) P G (zHqn (R, C, rk, sn, sk, cm, cdm) P G v n)
    rw [zQ_Hq h, ih]
theorem zQ_Act (h : zQe cn cd cm cdm) : zAct (R, C, rk, sn, sk, cn, cd) = zAct (R, C, rk, sn, sk, cm, cdm) := by
  funext P G v t s
  unfold zAct
  rw [zQ_Hqn h]
theorem zQ_Ar (h : zQe cn cd cm cdm) : zAr (R, C, rk, sn, sk, cn, cd) = zAr (R, C, rk, sn, sk, cm, cdm) := by
  funext P G v t i
  induction i with
  | zero => rfl
  | succ i ih =>
    show (zAr (R, C, rk, sn, sk, cn, cd) P G v t i).bind (fun v2 => zAct (R, C, rk, sn, sk, cn, cd) P G v2 t (zDp t i)) = (zAr (R, C, rk, sn, sk, cm, cdm) P G v t i).bind (fun v2 => zAct (R, C, rk, sn, sk, cm, cdm) P G v2 t (zDp t i))
    rw [zQ_Act h, ih]
theorem zQ_As2 (h : zQe cn cd cm cdm) : zAs2 (R, C, rk, sn, sk, cn, cd) = zAs2 (R, C, rk, sn, sk, cm, cdm) := by
  funext P G v t k i v2
  unfold zAs2
  rw [zQ_Ar h, zQ_Act h]
end ZQ
