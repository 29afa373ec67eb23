/-! The calls of the law, class and reference, printed by wip/x/h_zzcase.py -/
def xLE (n : Nat) (p : pm_H) : Prop := (xV p ∧ xtie p) ∧ xINV n p
def xLm (n : Nat) : Int := ((540 * n : Nat) : Int)
def xLI (n : Nat) (ph : pm_H) : Prop := xH xX kK (xLm n) 0 ph ∧ xLE n ph
set_option maxRecDepth 6000 in
theorem xLm_le {n : Nat} (h : n ≤ 513) : xLm n ≤ 2147483646 := by unfold xLm; omega
set_option maxRecDepth 6000 in
theorem xLm_0 {n : Nat} : (0 : Int) ≤ xLm n := by unfold xLm; omega
set_option maxRecDepth 6000 in
theorem xLm_s {n : Nat} {w : Nat} (h : w ≤ 540) : (w : Int) ≤ xLm (n + 1) := by unfold xLm; omega
set_option maxRecDepth 6000 in
theorem xshift {n w : Nat} {ph : pm_H} (h : xH xX kK (xLm n) 0 ph) (hw : w ≤ 540) : xH xX kK (xLm (n + 1)) w ph := xH_map (fun x e g => by
  cases e with
  | some p => exact g
  | none => exact ⟨g.1, by have := g.2; unfold xLm at this ⊢; omega⟩) h
def kI (v : Value) : Prop := ∃ x : Int32, v = .int x
def kJ (v : Value) : Prop := ∃ x : Int64, v = .long x
set_option maxRecDepth 6000 in
theorem yri {m : Int} {v : Option Value} {p : Int × Int} (h : xhR xX m v (some (.inl p))) : ∃ u, v = some u ∧ kI u := by
  obtain ⟨u, e, x, e2, -, -⟩ := h
  exact ⟨u, e, x, e2⟩
set_option maxRecDepth 6000 in
theorem yrj {m : Int} {v : Option Value} {p : Int × Int} (h : xhR xX m v (some (.inr (.inl p)))) : ∃ u, v = some u ∧ kJ u := by
  obtain ⟨u, e, x, e2, -, -⟩ := h
  exact ⟨u, e, x, e2⟩
set_option maxRecDepth 6000 in
theorem xat0 {m : Int} {w : Nat} {ph : pm_H} (h : xH xX kK m w ph) : ∃ f, pm_at ph 0 = some (.inr (12, f)) := by
  obtain ⟨f, a, -⟩ := xO_at h (a := 0) (i := 31) rfl rfl
  exact ⟨f, a⟩
set_option maxRecDepth 6000 in
theorem xat170 {m : Int} {w : Nat} {ph : pm_H} (h : xH xX kK m w ph) : ∃ f, pm_at ph 170 = some (.inr (13, f)) := by
  obtain ⟨f, a, -⟩ := xO_at h (a := 170) (i := 0) rfl rfl
  exact ⟨f, a⟩
def xCc (j : Nat) (as : List Value) (Q : Value → Prop) : Prop := ∀ n, n ≤ 512 → ∀ ph, xLI n ph → ∃ v ph', pm_Rd kK false 600 j (.ref 0 :: as) ph (some v, ph', 0, 0) ∧ Q v ∧ xLI n ph'
def xCm (j : Nat) (as : List Value) (Q : Value → Prop) : Prop := ∀ n, n ≤ 512 → ∀ ph, xH xX kK (xLm n) 0 ph → xLE n ph → ∃ v ph', pm_Rd kK false 600 j (.ref 170 :: as) ph (some v, ph', 0, 0) ∧ Q v ∧ xLI (n + 1) ph'
def xCs (j1 j2 : Nat) (as : List Value) (Q : Value → Value → Prop) : Prop := ∀ n, n ≤ 512 → ∀ ph, xLI n ph → ∃ v1 v2 ph1 ph2, ((∃ f, pm_at ph 0 = some (.inr (12, f))) ∧ ∃ f, pm_at ph1 170 = some (.inr (13, f))) ∧ pm_Rd kK false 600 j1 (.ref 0 :: as) ph (some v1, ph1, 0, 0) ∧ pm_Rd kK false 600 j2 (.ref 170 :: as) ph1 (some v2, ph2, 0, 0) ∧ Q v1 v2 ∧ xLI (n + 1) ph2
set_option maxRecDepth 6000 in
theorem xmod {d j W : Nat} {pre : List xh} {res : Option xh} {fq : List (Nat × xh)} {as : List Value} {Q : Value → Prop} (hm : ∀ n, xcon xX kK (xLE n) d j pre [] W res fq) (hd : d ≤ 600) (hW : W ≤ 540) (hv : ∀ m, xhV xX m (.ref 170 :: as) pre) (hr : ∀ m v, xhR xX m v res → ∃ u, v = some u ∧ Q u) : xCm j as Q := fun n hn ph hP hE => by
  obtain ⟨v, ph', a, b, c, e, -⟩ := hm n 600 hd (xLm (n + 1)) (xLm_le (by omega)) (xLm_s hW) _ ph (hv _) (fun _ _ h => absurd h List.not_mem_nil) (xshift hP hW) hE
  obtain ⟨u, rfl, q⟩ := hr _ _ e
  exact ⟨u, ph', a, q, b, c.1, xINV_le (Nat.le_succ n) c.2⟩
set_option maxRecDepth 6000 in
theorem xcls {d j : Nat} {pre : List xh} {res : Option xh} {fq : List (Nat × xh)} {as : List Value} {Q : Value → Prop} (hm : ∀ n, xcon xX kK (xLE n) d j pre [] 0 res fq) (hd : d ≤ 600) (hv : ∀ m, xhV xX m (.ref 0 :: as) pre) (hr : ∀ m v, xhR xX m v res → ∃ u, v = some u ∧ Q u) : xCc j as Q := fun n hn ph hI => by
  obtain ⟨v, ph', a, b, c, e, -⟩ := hm n 600 hd (xLm n) (xLm_le (by omega)) xLm_0 _ ph (hv _) (fun _ _ h => absurd h List.not_mem_nil) hI.1 hI.2
  obtain ⟨u, rfl, q⟩ := hr _ _ e
  exact ⟨u, ph', a, q, b, c⟩
set_option maxRecDepth 6000 in
theorem xboth {j1 j2 : Nat} {as : List Value} {Q1 Q2 : Value → Prop} (hc : xCc j1 as Q1) (hm : xCm j2 as Q2) : xCs j1 j2 as (fun a b => Q1 a ∧ Q2 b) := fun n hn ph hI => by
  obtain ⟨v1, ph1, a1, q1, h1⟩ := hc n hn ph hI
  obtain ⟨v2, ph2, a2, q2, h2⟩ := hm n hn ph1 h1.1 h1.2
  exact ⟨v1, v2, ph1, ph2, ⟨xat0 hI.1, xat170 h1.1⟩, a1, a2, ⟨q1, q2⟩, h2⟩
/-- the text is read to its end: its size is 0 -/
def yz1 (p : pm_H) : Prop := xget p 1 1 = some (.int 0)
set_option maxRecDepth 6000 in
theorem yz1_VS : xHE xX xgA_VR xgF_VS yz1 := xHE_gA (i := 44) rfl rfl
set_option maxRecDepth 6000 in
theorem yz1_VU : xHE xX xgA_VT xgF_VU yz1 := xHE_gA (i := 44) rfl rfl
def xCr (j : Nat) : Prop := ∀ n, n ≤ 512 → ∀ ph, xH xX kK (xLm n) 0 ph → xV ph → xINV n ph → yz1 ph → ∃ v ph', pm_Rd kK false 600 j [.ref 170] ph (v, ph', 0, 0) ∧ ∃ r : Int32, v = some (.int r) ∧ xH xX kK (xLm (n + 1)) 0 ph' ∧ xV ph' ∧ xINV (n + 1) ph' ∧ yz1 ph' ∧ xget ph' 170 14 = some (.int 0)
set_option maxRecDepth 6000 in
theorem xrdr {d j1 j2 : Nat} {gA : List Nat} {gF : List (Nat × Nat)} (hg : ∀ n, xHE xX gA gF (fun p => xV p ∧ xINV n p)) {res : Option xh} (hc : ∀ {E : pm_H → Prop}, xHE xX gA gF E → xcon xX kK E d j1 [.inr (.inr (.inl 31))] [] 0 res [(4097, .inl (Int.ofNat 0, Int.ofNat 0))]) (hd : d ≤ 600) (hr : ∀ m v, xhR xX m v res → ∃ u, v = some u ∧ kI u) (hm : xCr j2) : xCs j1 j2 [] (fun a b => kI a ∧ kI b) := fun n hn ph hI => by
  obtain ⟨v, ph1, a, b, c, e, f⟩ := hc (E := fun p => xV p ∧ xINV n p) (hg n) 600 hd (xLm n) (xLm_le (by omega)) xLm_0 [.ref 0] ph ⟨xaRi rfl (by decide), trivial⟩ (fun _ _ h => absurd h List.not_mem_nil) hI.1 ⟨hI.2.1.1, hI.2.2⟩
  obtain ⟨u, rfl, q⟩ := hr _ _ e
  obtain ⟨x, g1, g2, g3⟩ := xhF_getA (a := 1) (c := 1) f (List.Mem.head _) rfl rfl
  obtain rfl := xint0 g2 g3
  obtain ⟨v2, ph2, a2, r, rfl, b1, b2, b3, b4, b5⟩ := hm n hn ph1 b c.1 c.2 g1
  exact ⟨u, .int r, ph1, ph2, ⟨xat0 hI.1, xat170 b⟩, a, a2, ⟨q, r, rfl⟩, b1, ⟨b2, 0, b4, b5, fun i hi => by
    have h0 : (0 : Int32).toInt = 0 := by decide
    omega⟩, b3⟩
set_option maxRecDepth 6000 in
/-- view keeps what its own guard keeps -/
theorem xPC_of {E : pm_H → Prop} (h : xHE xX xgA_G19 xgF_G19 E) : xPC E := fun P hP => xn_48_0 (xHE_and h hP)
set_option maxRecDepth 6000 in
theorem xrdrC {d j1 j2 : Nat} {gA : List Nat} {gF : List (Nat × Nat)} (hg : ∀ n, xHE xX gA gF (fun p => xV p ∧ xINV n p)) (hg2 : ∀ n, xPC (fun p => xV p ∧ xINV n p)) {res : Option xh} (hc : ∀ {E : pm_H → Prop}, xHE xX gA gF E → xPC E → xcon xX kK E d j1 [.inr (.inr (.inl 31))] [] 0 res [(4097, .inl (Int.ofNat 0, Int.ofNat 0))]) (hd : d ≤ 600) (hr : ∀ m v, xhR xX m v res → ∃ u, v = some u ∧ kI u) (hm : xCr j2) : xCs j1 j2 [] (fun a b => kI a ∧ kI b) := fun n hn ph hI => by
  obtain ⟨v, ph1, a, b, c, e, f⟩ := hc (E := fun p => xV p ∧ xINV n p) (hg n) (hg2 n) 600 hd (xLm n) (xLm_le (by omega)) xLm_0 [.ref 0] ph ⟨xaRi rfl (by decide), trivial⟩ (fun _ _ h => absurd h List.not_mem_nil) hI.1 ⟨hI.2.1.1, hI.2.2⟩
  obtain ⟨u, rfl, q⟩ := hr _ _ e
  obtain ⟨x, g1, g2, g3⟩ := xhF_getA (a := 1) (c := 1) f (List.Mem.head _) rfl rfl
  obtain rfl := xint0 g2 g3
  obtain ⟨v2, ph2, a2, r, rfl, b1, b2, b3, b4, b5⟩ := hm n hn ph1 b c.1 c.2 g1
  exact ⟨u, .int r, ph1, ph2, ⟨xat0 hI.1, xat170 b⟩, a, a2, ⟨q, r, rfl⟩, b1, ⟨b2, 0, b4, b5, fun i hi => by
    have h0 : (0 : Int32).toInt = 0 := by decide
    omega⟩, b3⟩
set_option maxRecDepth 6000 in
theorem xLE_G99 (n : Nat) : xHE xX xgA_G99 xgF_G99 (xLE n) := xHE_and (xHE_and (xHE_sub (by decide +kernel) (by decide +kernel) xHEV) (xHE_sub (by decide +kernel) (by decide +kernel) xHE_ti)) (xHE_sub (by decide +kernel) (by decide +kernel) (xHEI n))
set_option maxRecDepth 6000 in
theorem xLE_G98 (n : Nat) : xHE xX xgA_G98 xgF_G98 (xLE n) := xHE_and (xHE_and (xHE_sub (by decide +kernel) (by decide +kernel) xHEV) (xHE_sub (by decide +kernel) (by decide +kernel) xHE_ti)) (xHE_sub (by decide +kernel) (by decide +kernel) (xHEI n))
set_option maxRecDepth 6000 in
theorem xLE_G96 (n : Nat) : xHE xX xgA_G96 xgF_G96 (xLE n) := xHE_and (xHE_and (xHE_sub (by decide +kernel) (by decide +kernel) xHEV) (xHE_sub (by decide +kernel) (by decide +kernel) xHE_ti)) (xHE_sub (by decide +kernel) (by decide +kernel) (xHEI n))
set_option maxRecDepth 6000 in
theorem xLE_G95 (n : Nat) : xHE xX xgA_G95 xgF_G95 (xLE n) := xHE_and (xHE_and (xHE_sub (by decide +kernel) (by decide +kernel) xHEV) (xHE_sub (by decide +kernel) (by decide +kernel) xHE_ti)) (xHE_sub (by decide +kernel) (by decide +kernel) (xHEI n))
set_option maxRecDepth 6000 in
theorem xLE_G94 (n : Nat) : xHE xX xgA_G94 xgF_G94 (xLE n) := xHE_and (xHE_and (xHE_sub (by decide +kernel) (by decide +kernel) xHEV) (xHE_sub (by decide +kernel) (by decide +kernel) xHE_ti)) (xHE_sub (by decide +kernel) (by decide +kernel) (xHEI n))
set_option maxRecDepth 6000 in
theorem xLE_G9 (n : Nat) : xHE xX xgA_G9 xgF_G9 (xLE n) := xHE_and (xHE_and (xHE_sub (by decide +kernel) (by decide +kernel) xHEV) (xHE_sub (by decide +kernel) (by decide +kernel) xHE_ti)) (xHE_sub (by decide +kernel) (by decide +kernel) (xHEI n))
set_option maxRecDepth 6000 in
theorem xLE_G8 (n : Nat) : xHE xX xgA_G8 xgF_G8 (xLE n) := xHE_and (xHE_and (xHE_sub (by decide +kernel) (by decide +kernel) xHEV) (xHE_sub (by decide +kernel) (by decide +kernel) xHE_ti)) (xHE_sub (by decide +kernel) (by decide +kernel) (xHEI n))
set_option maxRecDepth 6000 in
theorem xLE_G76 (n : Nat) : xHE xX xgA_G76 xgF_G76 (xLE n) := xHE_and (xHE_and (xHE_sub (by decide +kernel) (by decide +kernel) xHEV) (xHE_sub (by decide +kernel) (by decide +kernel) xHE_ti)) (xHE_sub (by decide +kernel) (by decide +kernel) (xHEI n))
set_option maxRecDepth 6000 in
theorem xLE_G57 (n : Nat) : xHE xX xgA_G57 xgF_G57 (xLE n) := xHE_and (xHE_and (xHE_sub (by decide +kernel) (by decide +kernel) xHEV) (xHE_sub (by decide +kernel) (by decide +kernel) xHE_ti)) (xHE_sub (by decide +kernel) (by decide +kernel) (xHEI n))
set_option maxRecDepth 6000 in
theorem xLE_G54 (n : Nat) : xHE xX xgA_G54 xgF_G54 (xLE n) := xHE_and (xHE_and (xHE_sub (by decide +kernel) (by decide +kernel) xHEV) (xHE_sub (by decide +kernel) (by decide +kernel) xHE_ti)) (xHE_sub (by decide +kernel) (by decide +kernel) (xHEI n))
set_option maxRecDepth 6000 in
theorem xLE_G49 (n : Nat) : xHE xX xgA_G49 xgF_G49 (xLE n) := xHE_and (xHE_and (xHE_sub (by decide +kernel) (by decide +kernel) xHEV) (xHE_sub (by decide +kernel) (by decide +kernel) xHE_ti)) (xHE_sub (by decide +kernel) (by decide +kernel) (xHEI n))
set_option maxRecDepth 6000 in
theorem xLE_G47 (n : Nat) : xHE xX xgA_G47 xgF_G47 (xLE n) := xHE_and (xHE_and (xHE_sub (by decide +kernel) (by decide +kernel) xHEV) (xHE_sub (by decide +kernel) (by decide +kernel) xHE_ti)) (xHE_sub (by decide +kernel) (by decide +kernel) (xHEI n))
set_option maxRecDepth 6000 in
theorem xLE_G46 (n : Nat) : xHE xX xgA_G46 xgF_G46 (xLE n) := xHE_and (xHE_and (xHE_sub (by decide +kernel) (by decide +kernel) xHEV) (xHE_sub (by decide +kernel) (by decide +kernel) xHE_ti)) (xHE_sub (by decide +kernel) (by decide +kernel) (xHEI n))
set_option maxRecDepth 6000 in
theorem xLE_G44 (n : Nat) : xHE xX xgA_G44 xgF_G44 (xLE n) := xHE_and (xHE_and (xHE_sub (by decide +kernel) (by decide +kernel) xHEV) (xHE_sub (by decide +kernel) (by decide +kernel) xHE_ti)) (xHE_sub (by decide +kernel) (by decide +kernel) (xHEI n))
set_option maxRecDepth 6000 in
theorem xLE_G42 (n : Nat) : xHE xX xgA_G42 xgF_G42 (xLE n) := xHE_and (xHE_and (xHE_sub (by decide +kernel) (by decide +kernel) xHEV) (xHE_sub (by decide +kernel) (by decide +kernel) xHE_ti)) (xHE_sub (by decide +kernel) (by decide +kernel) (xHEI n))
set_option maxRecDepth 6000 in
theorem xLE_G39 (n : Nat) : xHE xX xgA_G39 xgF_G39 (xLE n) := xHE_and (xHE_and (xHE_sub (by decide +kernel) (by decide +kernel) xHEV) (xHE_sub (by decide +kernel) (by decide +kernel) xHE_ti)) (xHE_sub (by decide +kernel) (by decide +kernel) (xHEI n))
set_option maxRecDepth 6000 in
theorem xLE_G33 (n : Nat) : xHE xX xgA_G33 xgF_G33 (xLE n) := xHE_and (xHE_and (xHE_sub (by decide +kernel) (by decide +kernel) xHEV) (xHE_sub (by decide +kernel) (by decide +kernel) xHE_ti)) (xHE_sub (by decide +kernel) (by decide +kernel) (xHEI n))
set_option maxRecDepth 6000 in
theorem xLE_G19 (n : Nat) : xHE xX xgA_G19 xgF_G19 (xLE n) := xHE_and (xHE_and (xHE_sub (by decide +kernel) (by decide +kernel) xHEV) (xHE_sub (by decide +kernel) (by decide +kernel) xHE_ti)) (xHE_sub (by decide +kernel) (by decide +kernel) (xHEI n))
set_option maxRecDepth 6000 in
theorem xLE_G17 (n : Nat) : xHE xX xgA_G17 xgF_G17 (xLE n) := xHE_and (xHE_and (xHE_sub (by decide +kernel) (by decide +kernel) xHEV) (xHE_sub (by decide +kernel) (by decide +kernel) xHE_ti)) (xHE_sub (by decide +kernel) (by decide +kernel) (xHEI n))
set_option maxRecDepth 6000 in
theorem xLE_G16 (n : Nat) : xHE xX xgA_G16 xgF_G16 (xLE n) := xHE_and (xHE_and (xHE_sub (by decide +kernel) (by decide +kernel) xHEV) (xHE_sub (by decide +kernel) (by decide +kernel) xHE_ti)) (xHE_sub (by decide +kernel) (by decide +kernel) (xHEI n))
set_option maxRecDepth 6000 in
theorem xLE_G13 (n : Nat) : xHE xX xgA_G13 xgF_G13 (xLE n) := xHE_and (xHE_and (xHE_sub (by decide +kernel) (by decide +kernel) xHEV) (xHE_sub (by decide +kernel) (by decide +kernel) xHE_ti)) (xHE_sub (by decide +kernel) (by decide +kernel) (xHEI n))
set_option maxRecDepth 6000 in
theorem xLE_G103 (n : Nat) : xHE xX xgA_G103 xgF_G103 (xLE n) := xHE_and (xHE_and (xHE_sub (by decide +kernel) (by decide +kernel) xHEV) (xHE_sub (by decide +kernel) (by decide +kernel) xHE_ti)) (xHE_sub (by decide +kernel) (by decide +kernel) (xHEI n))
set_option maxRecDepth 6000 in
theorem xLE_G100 (n : Nat) : xHE xX xgA_G100 xgF_G100 (xLE n) := xHE_and (xHE_and (xHE_sub (by decide +kernel) (by decide +kernel) xHEV) (xHE_sub (by decide +kernel) (by decide +kernel) xHE_ti)) (xHE_sub (by decide +kernel) (by decide +kernel) (xHEI n))
set_option maxRecDepth 6000 in
theorem xLE_C (n : Nat) : xPC (xLE n) := xPC_of (xLE_G19 n)
set_option maxRecDepth 6000 in
theorem xLE_S (n : Nat) : xSt (xLE n) := xSt_and (xSt_HE (xHE_and xHEVR xHE_tie) rfl (fun _ => rfl)) (xINV_St n)
set_option maxRecDepth 6000 in
theorem xcs_sign {x : Int32} : xCs 122 193 [.int x] (fun a b => kI a ∧ a = b) := fun n hn ph hI => by
  obtain ⟨r, ph1, ph2, a1, a2, b1, b2, c⟩ := xsignE (n := n) (xLm_le (by omega)) xLm_0 (D := 600) (by decide) (y := x) hI.1 hI.2
  exact ⟨.int r, .int r, ph1, ph2, ⟨xat0 hI.1, xat170 b1⟩, a1, a2, ⟨⟨r, rfl⟩, rfl⟩, xshift b2 (by decide), c.1, xINV_le (Nat.le_succ n) c.2⟩
set_option maxRecDepth 6000 in
theorem xcs_endE {x : Int32} : xCs 123 194 [.int x] (fun a b => kI a ∧ a = b) := fun n hn ph hI => by
  obtain ⟨r, ph1, ph2, a1, a2, b1, b2, c⟩ := xendE (n := n) (xLm_le (by omega)) xLm_0 (D := 600) (by decide) (y := x) hI.1 hI.2
  exact ⟨.int r, .int r, ph1, ph2, ⟨xat0 hI.1, xat170 b1⟩, a1, a2, ⟨⟨r, rfl⟩, rfl⟩, xshift b2 (by decide), c.1, xINV_le (Nat.le_succ n) c.2⟩
set_option maxRecDepth 6000 in
theorem xcs_end {x : Int32} : xCs 123 194 [.int x] (fun a b => kI a ∧ kI b) := fun n hn ph hI => by
  obtain ⟨v1, v2, p1, p2, a, b, c, ⟨⟨r, rfl⟩, rfl⟩, e⟩ := xcs_endE (x := x) n hn ph hI
  exact ⟨_, _, p1, p2, a, b, c, ⟨⟨r, rfl⟩, r, rfl⟩, e⟩
set_option maxRecDepth 6000 in
theorem xcr_valley : xCr 202 := fun n hn ph hP hV hI hz => by
  obtain ⟨v, ph', a, r, e, b1, b2, b3, b4, b5⟩ := xw_valley (n := n) (R := yz1) yz1_VU (xLm_le (by omega)) xLm_0 (D := 600) (by omega) (by decide) (xshift hP (by decide)) hV hI hz
  exact ⟨v, ph', a, r, e, b1, b2, b3, b4, b5⟩
set_option maxRecDepth 6000 in
theorem xcs_valley : xCs 124 202 [] (fun a b => kI a ∧ kI b) := xrdr (gA := xgA_G34) (gF := xgF_G34) (fun n => xHE_and (xHE_sub (by decide +kernel) (by decide +kernel) xHEV) (xHE_sub (by decide +kernel) (by decide +kernel) (xHEI n))) (fun h => xn_124_0 h) (by decide) (fun _ _ h => yri h) xcr_valley
set_option maxRecDepth 6000 in
theorem xcr_people : xCr 208 := fun n hn ph hP hV hI hz => by
  obtain ⟨v, ph', a, r, e, b1, b2, b3, b4, b5⟩ := xw_people (n := n) (R := yz1) yz1_VU (xLm_le (by omega)) xLm_0 (D := 600) (by omega) (by decide) (xshift hP (by decide)) hV hI hz
  exact ⟨v, ph', a, r, e, b1, b2, b3, b4, b5⟩
set_option maxRecDepth 6000 in
theorem xcs_people : xCs 125 208 [] (fun a b => kI a ∧ kI b) := xrdr (gA := xgA_G35) (gF := xgF_G35) (fun n => xHE_and (xHE_sub (by decide +kernel) (by decide +kernel) xHEV) (xHE_sub (by decide +kernel) (by decide +kernel) (xHEI n))) (fun h => xn_125_0 h) (by decide) (fun _ _ h => yri h) xcr_people
set_option maxRecDepth 6000 in
theorem xcr_things : xCr 209 := fun n hn ph hP hV hI hz => by
  obtain ⟨v, ph', a, r, e, b1, b2, b3, b4, b5⟩ := xw_things (n := n) (R := yz1) yz1_VU (xLm_le (by omega)) xLm_0 (D := 600) (by omega) (by decide) (xshift hP (by decide)) hV hI hz
  exact ⟨v, ph', a, r, e, b1, b2, b3, b4, b5⟩
set_option maxRecDepth 6000 in
theorem xcs_things : xCs 126 209 [] (fun a b => kI a ∧ kI b) := xrdr (gA := xgA_G36) (gF := xgF_G36) (fun n => xHE_and (xHE_sub (by decide +kernel) (by decide +kernel) xHEV) (xHE_sub (by decide +kernel) (by decide +kernel) (xHEI n))) (fun h => xn_126_0 h) (by decide) (fun _ _ h => yri h) xcr_things
set_option maxRecDepth 6000 in
theorem xcr_light : xCr 210 := fun n hn ph hP hV hI hz => by
  obtain ⟨v, ph', a, b, c, e, f⟩ := xn_210_0 (E := fun p => (xV p ∧ yz1 p) ∧ xINV n p) (xHE_and (xHE_and (xHE_sub (by decide +kernel) (by decide +kernel) xHEV) (xHE_gA (i := 44) rfl rfl)) (xHE_sub (by decide +kernel) (by decide +kernel) (xHEI n))) 600 (by decide) (xLm (n + 1)) (xLm_le (by omega)) (xLm_0) [.ref 170] ph ⟨xaRi rfl (by decide), trivial⟩ (fun _ _ h => absurd h List.not_mem_nil) (xshift hP (by decide)) ⟨⟨hV, hz⟩, hI⟩
  obtain ⟨u, rfl, r, rfl⟩ := yri e
  obtain ⟨x, g1, g2, g3⟩ := xhF_getA (a := 170) (c := 14) f (List.Mem.head _) rfl rfl
  obtain rfl := xint0 g2 g3
  exact ⟨_, ph', a, r, rfl, b, c.1.1, xINV_le (Nat.le_succ n) c.2, c.1.2, g1⟩
set_option maxRecDepth 6000 in
theorem xcs_light : xCs 127 210 [] (fun a b => kI a ∧ kI b) := xrdr (gA := xgA_G37) (gF := xgF_G37) (fun n => xHE_and (xHE_sub (by decide +kernel) (by decide +kernel) xHEV) (xHE_sub (by decide +kernel) (by decide +kernel) (xHEI n))) (fun h => xn_127_0 h) (by decide) (fun _ _ h => yri h) xcr_light
set_option maxRecDepth 6000 in
theorem xcr_rule : xCr 217 := fun n hn ph hP hV hI hz => by
  obtain ⟨v, ph', a, z, e, -, b, c, dd, e14, e15, e16⟩ := xrule (E := fun p => yz1 p ∧ xINV n p) (xHE_and (xHE_gA (i := 44) rfl rfl) (xHE_sub (by decide +kernel) (by decide +kernel) (xHEI n))) (xLm_le (n := n + 1) (by omega)) xLm_0 (D := 600) (by decide) (xshift hP (by decide)) ⟨hz, hI⟩ hV
  obtain rfl := xint0 (x := e14) (by rw [e16]; exact Int.le_refl _) (by rw [e16]; exact Int.le_refl _)
  exact ⟨v, ph', a, z, e, b, dd, xINV_le (Nat.le_succ n) c.2, c.1, e15⟩
set_option maxRecDepth 6000 in
theorem xcs_rule : xCs 128 217 [] (fun a b => kI a ∧ kI b) := xrdr (gA := xgA_G38) (gF := xgF_G38) (fun n => xHE_and (xHE_sub (by decide +kernel) (by decide +kernel) xHEV) (xHE_sub (by decide +kernel) (by decide +kernel) (xHEI n))) (fun h => xn_128_0 h) (by decide) (fun _ _ h => yri h) xcr_rule
set_option maxRecDepth 6000 in
theorem xcm_person {x y : Int32} : xCm 235 [.int x, .int y] kI := xmod (fun n => xn_235_0 (xLE_G57 n) (fun _ q => q.1.1)) (by decide) (by decide) (fun _ => ⟨xaRi rfl (by decide), xaT, xaT, trivial⟩) (fun _ _ h => yri h)
set_option maxRecDepth 6000 in
theorem xcm_thing {x y : Int32} : xCm 236 [.int x, .int y] kI := xmod (fun n => xn_236_0 (xLE_G57 n) (fun _ q => q.1.1) (fun _ q => xINV_PG q.2)) (by decide) (by decide) (fun _ => ⟨xaRi rfl (by decide), xaT, xaT, trivial⟩) (fun _ _ h => yri h)
set_option maxRecDepth 6000 in
theorem xcm_sheet {x y z w : Int32} : xCm 237 [.int x, .int y, .int z, .int w] kI := xmod (fun n => xn_237_0 (xLE_G76 n)) (by decide) (by decide) (fun _ => ⟨xaRi rfl (by decide), xaT, xaT, xaT, xaT, trivial⟩) (fun _ _ h => yri h)
set_option maxRecDepth 6000 in
theorem xcs_sheet {x y z w : Int32} : xCs 131 237 [.int x, .int y, .int z, .int w] (fun a b => kI a ∧ kI b) := xboth (xcls (fun n => xn_131_0 (xLE_G39 n)) (by decide) (fun _ => ⟨xaRi rfl (by decide), xaT, xaT, xaT, xaT, trivial⟩) (fun _ _ h => yri h)) xcm_sheet
set_option maxRecDepth 6000 in
theorem xcm_hours {x : Int32} : xCm 248 [.int x] kI := fun n hn ph hP hE => by
  obtain ⟨v, ph', a, r, rfl, b, c, dd, e⟩ := xw_hours (n := n) (R := xtie) (p0 := x) xHE_tie (xLm_le (by omega)) xLm_0 (xLm_s (w := 99) (by decide)) (D := 600) (by decide) (xshift hP (by decide)) hE.1.1 hE.2 hE.1.2
  exact ⟨_, ph', a, ⟨r, rfl⟩, b, ⟨c, e⟩, xINV_le (Nat.le_succ n) dd⟩
set_option maxRecDepth 6000 in
theorem xcs_hours {x : Int32} : xCs 133 248 [.int x] (fun a b => kI a ∧ kI b) := xboth (xcls (fun n => xn_133_0 (xLE_G42 n) (xLE_C n)) (by decide) (fun _ => ⟨xaRi rfl (by decide), xaT, trivial⟩) (fun _ _ h => yri h)) xcm_hours
set_option maxRecDepth 6000 in
theorem xcm_faces {x y : Int32} : xCm 249 [.int x, .int y] kI := fun n hn ph hP hE => by
  obtain ⟨v, ph', a, r, rfl, b, c, dd, e⟩ := xw_faces (n := n) (p := x) (q := y) (R := xtie) xHE_tie (xLm_le (by omega)) xLm_0 (D := 600) (by decide) (xshift hP (by decide)) hE.1.1 hE.2 hE.1.2
  exact ⟨_, ph', a, ⟨r, rfl⟩, b, ⟨c, e⟩, xINV_le (Nat.le_succ n) dd⟩
set_option maxRecDepth 6000 in
theorem xcs_faces {x y : Int32} : xCs 134 249 [.int x, .int y] (fun a b => kI a ∧ kI b) := xboth (xcls (fun n => xn_134_0 (xLE_G44 n)) (by decide) (fun _ => ⟨xaRi rfl (by decide), xaT, xaT, trivial⟩) (fun _ _ h => yri h)) xcm_faces
set_option maxRecDepth 6000 in
theorem xcm_steps {x y : Int32} : xCm 250 [.int x, .int y] kI := fun n hn ph hP hE => by
  obtain ⟨v, ph', a, r, rfl, b, c, dd, e⟩ := xw_steps (n := n) (p := x) (q := y) (R := xtie) xHE_tie (xLm_le (by omega)) xLm_0 (D := 600) (by decide) (xshift hP (by decide)) hE.1.1 hE.2 hE.1.2
  exact ⟨_, ph', a, ⟨r, rfl⟩, b, ⟨c, e⟩, xINV_le (Nat.le_succ n) dd⟩
set_option maxRecDepth 6000 in
theorem xcs_steps {x y : Int32} : xCs 135 250 [.int x, .int y] (fun a b => kI a ∧ kI b) := xboth (xcls (fun n => xn_135_0 (xLE_G46 n)) (by decide) (fun _ => ⟨xaRi rfl (by decide), xaT, xaT, trivial⟩) (fun _ _ h => yri h)) xcm_steps
set_option maxRecDepth 6000 in
theorem xcm_trims {x y : Int32} : xCm 251 [.int x, .int y] kI := fun n hn ph hP hE => by
  obtain ⟨v, ph', a, r, rfl, b, c, dd, e⟩ := xw_trims (n := n) (p := x) (q := y) (R := xtie) xHE_tie (xLm_le (by omega)) xLm_0 (D := 600) (by decide) (xshift hP (by decide)) hE.1.1 hE.2 hE.1.2
  exact ⟨_, ph', a, ⟨r, rfl⟩, b, ⟨c, e⟩, xINV_le (Nat.le_succ n) dd⟩
set_option maxRecDepth 6000 in
theorem xcs_trims {x y : Int32} : xCs 136 251 [.int x, .int y] (fun a b => kI a ∧ kI b) := xboth (xcls (fun n => xn_136_0 (xLE_G47 n)) (by decide) (fun _ => ⟨xaRi rfl (by decide), xaT, xaT, trivial⟩) (fun _ _ h => yri h)) xcm_trims
set_option maxRecDepth 6000 in
theorem xcm_puts {x y : Int32} : xCm 252 [.int x, .int y] kI := fun n hn ph hP hE => by
  obtain ⟨v, ph', a, r, rfl, b, c, dd, e⟩ := xw_puts (n := n) (p := x) (q := y) (R := xtie) xHE_tie (xLm_le (by omega)) xLm_0 (D := 600) (by decide) (xshift hP (by decide)) hE.1.1 hE.2 hE.1.2
  exact ⟨_, ph', a, ⟨r, rfl⟩, b, ⟨c, e⟩, xINV_le (Nat.le_succ n) dd⟩
set_option maxRecDepth 6000 in
theorem xcs_puts {x y : Int32} : xCs 137 252 [.int x, .int y] (fun a b => kI a ∧ kI b) := xboth (xcls (fun n => xn_137_0 (xLE_G49 n)) (by decide) (fun _ => ⟨xaRi rfl (by decide), xaT, xaT, trivial⟩) (fun _ _ h => yri h)) xcm_puts
set_option maxRecDepth 6000 in
theorem xcr_day : xCr 255 := fun n hn ph hP hV hI hz => by
  obtain ⟨v, ph', a, r, e, b1, b2, b3, b4, b5⟩ := xw_day (n := n) (R := yz1) yz1_VS (xLm_le (by omega)) xLm_0 (xLm_s (w := 540) (by decide)) (D := 600) (by decide) (xshift hP (by decide)) hV hI hz
  exact ⟨v, ph', a, r, e, b1, b2, xINV_le (Nat.le_succ n) b3, b4, b5⟩
set_option maxRecDepth 6000 in
theorem xcs_day : xCs 138 255 [] (fun a b => kI a ∧ kI b) := xrdrC (gA := xgA_G51) (gF := xgF_G51) (fun n => xHE_and (xHE_sub (by decide +kernel) (by decide +kernel) xHEV) (xHE_sub (by decide +kernel) (by decide +kernel) (xHEI n))) (fun n => xPC_of (xHE_and (xHE_sub (by decide +kernel) (by decide +kernel) xHEV) (xHE_sub (by decide +kernel) (by decide +kernel) (xHEI n)))) (fun h hC => xn_138_0 h hC) (by decide) (fun _ _ h => yri h) xcr_day
set_option maxRecDepth 6000 in
theorem xcm_undo : xCm 241 [] kI := fun n hn ph hP hE => by
  obtain ⟨v, ph', a, r, rfl, b, c, dd, e⟩ := xundo (n := n) (R := xtie) xHE_tie (xLm_le (by omega)) xLm_0 (D := 599) (xshift hP (by decide)) hE.1.1 hE.2 hE.1.2
  exact ⟨_, ph', a, ⟨r, rfl⟩, b, ⟨c, e⟩, xINV_le (Nat.le_succ n) dd⟩
set_option maxRecDepth 6000 in
theorem xcs_undo : xCs 139 241 [] (fun a b => kI a ∧ kI b) := xboth (xcls (fun n => xn_139_0 (xLE_G13 n)) (by decide) (fun _ => ⟨xaRi rfl (by decide), trivial⟩) (fun _ _ h => yri h)) xcm_undo
set_option maxRecDepth 6000 in
theorem xcm_sees {x : Int32} : xCm 257 [.int x] kJ := xmod (fun n => xn_257_0 (xLE_G94 n) (fun _ q => q.1.1)) (by decide) (by decide) (fun _ => ⟨xaRi rfl (by decide), xaT, trivial⟩) (fun _ _ h => yrj h)
set_option maxRecDepth 6000 in
theorem xcs_sees {x : Int32} : xCs 147 257 [.int x] (fun a b => kJ a ∧ kJ b) := xboth (xcls (fun n => xn_147_0 (xLE_G9 n) (xLE_C n)) (by decide) (fun _ => ⟨xaRi rfl (by decide), xaT, trivial⟩) (fun _ _ h => yrj h)) xcm_sees
set_option maxRecDepth 6000 in
theorem xcm_seers {x : Int32} : xCm 258 [.int x] kI := xmod (fun n => xn_258_0 (xLE_G94 n) (fun _ q => q.1.1)) (by decide) (by decide) (fun _ => ⟨xaRi rfl (by decide), xaT, trivial⟩) (fun _ _ h => yri h)
set_option maxRecDepth 6000 in
theorem xcs_seers {x : Int32} : xCs 148 258 [.int x] (fun a b => kI a ∧ kI b) := xboth (xcls (fun n => xn_148_0 (xLE_G9 n) (xLE_C n)) (by decide) (fun _ => ⟨xaRi rfl (by decide), xaT, trivial⟩) (fun _ _ h => yri h)) xcm_seers
set_option maxRecDepth 6000 in
theorem xcm_hidden : xCm 260 [] kJ := xmod (fun n => xn_260_0 (xLE_G94 n) (fun _ q => q.1.1)) (by decide) (by decide) (fun _ => ⟨xaRi rfl (by decide), trivial⟩) (fun _ _ h => yrj h)
set_option maxRecDepth 6000 in
theorem xcs_hidden : xCs 149 260 [] (fun a b => kJ a ∧ kJ b) := xboth (xcls (fun n => xn_149_0 (xLE_G9 n) (xLE_C n)) (by decide) (fun _ => ⟨xaRi rfl (by decide), trivial⟩) (fun _ _ h => yrj h)) xcm_hidden
set_option maxRecDepth 6000 in
theorem xcm_pairs : xCm 261 [] kI := xmod (fun n => xn_261_0 (xLE_G94 n) (fun _ q => q.1.1) (fun _ q => xINV_PG q.2)) (by decide) (by decide) (fun _ => ⟨xaRi rfl (by decide), trivial⟩) (fun _ _ h => yri h)
set_option maxRecDepth 6000 in
theorem xcs_pairs : xCs 150 261 [] (fun a b => kI a ∧ kI b) := xboth (xcls (fun n => xn_150_0 (xLE_G9 n) (xLE_C n)) (by decide) (fun _ => ⟨xaRi rfl (by decide), trivial⟩) (fun _ _ h => yri h)) xcm_pairs
set_option maxRecDepth 6000 in
theorem xcm_behind {x : Int32} : xCm 262 [.int x] kI := xmod (fun n => xn_262_0 (xLE_G94 n) (fun _ q => q.1.1) (fun _ q => xINV_PG q.2)) (by decide) (by decide) (fun _ => ⟨xaRi rfl (by decide), xaT, trivial⟩) (fun _ _ h => yri h)
set_option maxRecDepth 6000 in
theorem xcs_behind {x : Int32} : xCs 151 262 [.int x] (fun a b => kI a ∧ kI b) := xboth (xcls (fun n => xn_151_0 (xLE_G9 n) (xLE_C n)) (by decide) (fun _ => ⟨xaRi rfl (by decide), xaT, trivial⟩) (fun _ _ h => yri h)) xcm_behind
set_option maxRecDepth 6000 in
theorem xcm_widest : xCm 263 [] kI := xmod (fun n => xn_263_0 (xLE_G94 n) (fun _ q => q.1.1)) (by decide) (by decide) (fun _ => ⟨xaRi rfl (by decide), trivial⟩) (fun _ _ h => yri h)
set_option maxRecDepth 6000 in
theorem xcs_widest : xCs 152 263 [] (fun a b => kI a ∧ kI b) := xboth (xcls (fun n => xn_152_0 (xLE_G9 n) (xLE_C n)) (by decide) (fun _ => ⟨xaRi rfl (by decide), trivial⟩) (fun _ _ h => yri h)) xcm_widest
set_option maxRecDepth 6000 in
theorem xcm_watch : xCm 265 [] kI := xmod (fun n => xn_265_0 (xLE_G94 n) (fun _ q => q.1.1)) (by decide) (by decide) (fun _ => ⟨xaRi rfl (by decide), trivial⟩) (fun _ _ h => yri h)
set_option maxRecDepth 6000 in
theorem xcs_watch : xCs 153 265 [] (fun a b => kI a ∧ kI b) := xboth (xcls (fun n => xn_153_0 (xLE_G9 n) (xLE_C n)) (by decide) (fun _ => ⟨xaRi rfl (by decide), trivial⟩) (fun _ _ h => yri h)) xcm_watch
set_option maxRecDepth 6000 in
theorem xcm_learns {x y : Int32} : xCm 266 [.int x, .int y] kI := xmod (fun n => xn_266_0 (xLE_G95 n) (fun _ q => q.1.1)) (by decide) (by decide) (fun _ => ⟨xaRi rfl (by decide), xaT, xaT, trivial⟩) (fun _ _ h => yri h)
set_option maxRecDepth 6000 in
theorem xcs_learns {x y : Int32} : xCs 154 266 [.int x, .int y] (fun a b => kI a ∧ kI b) := xboth (xcls (fun n => xn_154_0 (xLE_G54 n) (xLE_C n)) (by decide) (fun _ => ⟨xaRi rfl (by decide), xaT, xaT, trivial⟩) (fun _ _ h => yri h)) xcm_learns
set_option maxRecDepth 6000 in
theorem xcm_all : xCm 268 [] kI := xmod (fun n => xn_268_0 (xLE_G95 n) (fun _ q => q.1.1)) (by decide) (by decide) (fun _ => ⟨xaRi rfl (by decide), trivial⟩) (fun _ _ h => yri h)
set_option maxRecDepth 6000 in
theorem xcs_all : xCs 155 268 [] (fun a b => kI a ∧ kI b) := xboth (xcls (fun n => xn_155_0 (xLE_G54 n) (xLE_C n)) (by decide) (fun _ => ⟨xaRi rfl (by decide), trivial⟩) (fun _ _ h => yri h)) xcm_all
set_option maxRecDepth 6000 in
theorem xcm_ahead {x : Int32} : xCm 269 [.int x] kI := xmod (fun n => xn_269_0 (xLE_G95 n) (fun _ q => q.1.1)) (by decide) (by decide) (fun _ => ⟨xaRi rfl (by decide), xaT, trivial⟩) (fun _ _ h => yri h)
set_option maxRecDepth 6000 in
theorem xcs_ahead {x : Int32} : xCs 156 269 [.int x] (fun a b => kI a ∧ kI b) := xboth (xcls (fun n => xn_156_0 (xLE_G54 n) (xLE_C n)) (by decide) (fun _ => ⟨xaRi rfl (by decide), xaT, trivial⟩) (fun _ _ h => yri h)) xcm_ahead
set_option maxRecDepth 6000 in
theorem xcm_gossip {x : Int32} : xCm 270 [.int x] kI := xmod (fun n => xn_270_0 (xLE_G94 n) (fun _ q => q.1.1)) (by decide) (by decide) (fun _ => ⟨xaRi rfl (by decide), xaT, trivial⟩) (fun _ _ h => yri h)
set_option maxRecDepth 6000 in
theorem xcs_gossip {x : Int32} : xCs 157 270 [.int x] (fun a b => kI a ∧ kI b) := xboth (xcls (fun n => xn_157_0 (xLE_G9 n) (xLE_C n)) (by decide) (fun _ => ⟨xaRi rfl (by decide), xaT, trivial⟩) (fun _ _ h => yri h)) xcm_gossip
set_option maxRecDepth 6000 in
theorem xcm_eighths {x y : Int32} : xCm 272 [.int x, .int y] kI := xmod (fun n => xn_272_0 (xLE_G94 n) (fun _ q => q.1.1)) (by decide) (by decide) (fun _ => ⟨xaRi rfl (by decide), xaT, xaT, trivial⟩) (fun _ _ h => yri h)
set_option maxRecDepth 6000 in
theorem xcs_eighths {x y : Int32} : xCs 158 272 [.int x, .int y] (fun a b => kI a ∧ kI b) := xboth (xcls (fun n => xn_158_0 (xLE_G9 n) (xLE_C n)) (by decide) (fun _ => ⟨xaRi rfl (by decide), xaT, xaT, trivial⟩) (fun _ _ h => yri h)) xcm_eighths
set_option maxRecDepth 6000 in
theorem xcm_turned : xCm 276 [] kI := xmod (fun n => xn_276_0 (xLE_G96 n) (fun _ q => q.1.1) (fun _ q => xINV_PG q.2)) (by decide) (by decide) (fun _ => ⟨xaRi rfl (by decide), trivial⟩) (fun _ _ h => yri h)
set_option maxRecDepth 6000 in
theorem xcs_turned : xCs 159 276 [] (fun a b => kI a ∧ kI b) := xboth (xcls (fun n => xn_159_0 (xLE_G9 n) (xLE_C n)) (by decide) (fun _ => ⟨xaRi rfl (by decide), trivial⟩) (fun _ _ h => yri h)) xcm_turned
set_option maxRecDepth 6000 in
theorem xcm_best {x : Int32} : xCm 277 [.int x] kI := xmod (fun n => xn_277_0 (xLE_G94 n) (fun _ q => q.1.1) (fun _ q => xINV_PG q.2)) (by decide) (by decide) (fun _ => ⟨xaRi rfl (by decide), xaT, trivial⟩) (fun _ _ h => yri h)
set_option maxRecDepth 6000 in
theorem xcs_best {x : Int32} : xCs 160 277 [.int x] (fun a b => kI a ∧ kI b) := xboth (xcls (fun n => xn_160_0 (xLE_G9 n) (xLE_C n)) (by decide) (fun _ => ⟨xaRi rfl (by decide), xaT, trivial⟩) (fun _ _ h => yri h)) xcm_best
set_option maxRecDepth 6000 in
theorem xcm_bears {x y : Int32} : xCm 278 [.int x, .int y] kI := xmod (fun n => xn_278_0 (xLE_G94 n) (fun _ q => q.1.1)) (by decide) (by decide) (fun _ => ⟨xaRi rfl (by decide), xaT, xaT, trivial⟩) (fun _ _ h => yri h)
set_option maxRecDepth 6000 in
theorem xcs_bears {x y : Int32} : xCs 161 278 [.int x, .int y] (fun a b => kI a ∧ kI b) := xboth (xcls (fun n => xn_161_0 (xLE_G9 n) (xLE_C n)) (by decide) (fun _ => ⟨xaRi rfl (by decide), xaT, xaT, trivial⟩) (fun _ _ h => yri h)) xcm_bears
set_option maxRecDepth 6000 in
theorem xcm_back {x y : Int32} : xCm 281 [.int x, .int y] kI := xmod (fun n => xn_281_0 (xLE_G98 n) (fun _ q => q.1.1)) (by decide) (by decide) (fun _ => ⟨xaRi rfl (by decide), xaT, xaT, trivial⟩) (fun _ _ h => yri h)
set_option maxRecDepth 6000 in
theorem xcs_back {x y : Int32} : xCs 164 281 [.int x, .int y] (fun a b => kI a ∧ kI b) := xboth (xcls (fun n => xn_164_0 (xLE_G9 n) (xLE_C n)) (by decide) (fun _ => ⟨xaRi rfl (by decide), xaT, xaT, trivial⟩) (fun _ _ h => yri h)) xcm_back
set_option maxRecDepth 6000 in
theorem xcm_open {x y : Int32} : xCm 282 [.int x, .int y] kI := xmod (fun n => xn_282_0 (xLE_G98 n) (fun _ q => q.1.1)) (by decide) (by decide) (fun _ => ⟨xaRi rfl (by decide), xaT, xaT, trivial⟩) (fun _ _ h => yri h)
set_option maxRecDepth 6000 in
theorem xcs_open {x y : Int32} : xCs 165 282 [.int x, .int y] (fun a b => kI a ∧ kI b) := xboth (xcls (fun n => xn_165_0 (xLE_G9 n) (xLE_C n)) (by decide) (fun _ => ⟨xaRi rfl (by decide), xaT, xaT, trivial⟩) (fun _ _ h => yri h)) xcm_open
set_option maxRecDepth 6000 in
theorem xcm_heard {x y : Int32} : xCm 283 [.int x, .int y] kI := xmod (fun n => xn_283_0 (xLE_G99 n)) (by decide) (by decide) (fun _ => ⟨xaRi rfl (by decide), xaT, xaT, trivial⟩) (fun _ _ h => yri h)
set_option maxRecDepth 6000 in
theorem xcs_heard {x y : Int32} : xCs 166 283 [.int x, .int y] (fun a b => kI a ∧ kI b) := xboth (xcls (fun n => xn_166_0 (xLE_G33 n) (xLE_C n)) (by decide) (fun _ => ⟨xaRi rfl (by decide), xaT, xaT, trivial⟩) (fun _ _ h => yri h)) xcm_heard
set_option maxRecDepth 6000 in
theorem xcm_forget : xCm 284 [] kI := xmod (fun n => xn_284_0 (xLE_G100 n)) (by decide) (by decide) (fun _ => ⟨xaRi rfl (by decide), trivial⟩) (fun _ _ h => yri h)
set_option maxRecDepth 6000 in
theorem xcs_forget : xCs 167 284 [] (fun a b => kI a ∧ kI b) := xboth (xcls (fun n => xn_167_0 (xLE_G33 n)) (by decide) (fun _ => ⟨xaRi rfl (by decide), trivial⟩) (fun _ _ h => yri h)) xcm_forget
set_option maxRecDepth 6000 in
theorem xcm_lost : xCm 286 [] kJ := xmod (fun n => xn_286_0 (xLE_G94 n) (fun _ q => q.1.1)) (by decide) (by decide) (fun _ => ⟨xaRi rfl (by decide), trivial⟩) (fun _ _ h => yrj h)
set_option maxRecDepth 6000 in
theorem xcs_lost : xCs 168 286 [] (fun a b => kJ a ∧ kJ b) := xboth (xcls (fun n => xn_168_0 (xLE_G9 n)) (by decide) (fun _ => ⟨xaRi rfl (by decide), trivial⟩) (fun _ _ h => yrj h)) xcm_lost
set_option maxRecDepth 6000 in
theorem xcm_asks : xCm 287 [] kI := xmod (fun n => xn_287_0 (xLE_G94 n) (fun _ q => q.1.1)) (by decide) (by decide) (fun _ => ⟨xaRi rfl (by decide), trivial⟩) (fun _ _ h => yri h)
set_option maxRecDepth 6000 in
theorem xcs_asks : xCs 169 287 [] (fun a b => kI a ∧ kI b) := xboth (xcls (fun n => xn_169_0 (xLE_G9 n) (xLE_C n)) (by decide) (fun _ => ⟨xaRi rfl (by decide), trivial⟩) (fun _ _ h => yri h)) xcm_asks
set_option maxRecDepth 6000 in
theorem xcm_storm {x y z : Int32} : xCm 288 [.int x, .int y, .int z] kI := xmod (fun n => xn_288_0 (xLE_G94 n) (fun _ q => q.1.1)) (by decide) (by decide) (fun _ => ⟨xaRi rfl (by decide), xaT, xaT, xaT, trivial⟩) (fun _ _ h => yri h)
set_option maxRecDepth 6000 in
theorem xcs_storm {x y z : Int32} : xCs 171 288 [.int x, .int y, .int z] (fun a b => kI a ∧ kI b) := xboth (xcls (fun n => xn_171_0 (xLE_G9 n) (xLE_C n)) (by decide) (fun _ => ⟨xaRi rfl (by decide), xaT, xaT, xaT, trivial⟩) (fun _ _ h => yri h)) xcm_storm
set_option maxRecDepth 6000 in
theorem xcm_cock {x y : Int32} : xCm 289 [.int x, .int y] kI := xmod (fun n => xn_289_0 (xLE_G57 n)) (by decide) (by decide) (fun _ => ⟨xaRi rfl (by decide), xaT, xaT, trivial⟩) (fun _ _ h => yri h)
set_option maxRecDepth 6000 in
theorem xcs_cock {x y : Int32} : xCs 172 289 [.int x, .int y] (fun a b => kI a ∧ kI b) := xboth (xcls (fun n => xn_172_0 (xLE_G8 n)) (by decide) (fun _ => ⟨xaRi rfl (by decide), xaT, xaT, trivial⟩) (fun _ _ h => yri h)) xcm_cock
set_option maxRecDepth 6000 in
theorem xcr_law : xCr 290 := fun n hn ph hP hV hI hz => by
  obtain ⟨v, ph', a, z, e, b, c, dd, e14, e15, e16⟩ := xlaw (E := fun p => yz1 p ∧ xINV n p) (xHE_and (xHE_gA (i := 44) rfl rfl) (xHE_sub (by decide +kernel) (by decide +kernel) (xHEI n))) (xLm_le (n := n + 1) (by omega)) xLm_0 (D := 600) (by decide) (xshift hP (by decide)) ⟨hz, hI⟩ hV
  obtain rfl := xint0 (x := e14) (by rw [e16]; exact Int.le_refl _) (by rw [e16]; exact Int.le_refl _)
  exact ⟨v, ph', a, z, e, b, dd, xINV_le (Nat.le_succ n) c.2, c.1, e15⟩
set_option maxRecDepth 6000 in
theorem xcs_law : xCs 173 290 [] (fun a b => kI a ∧ kI b) := xrdrC (gA := xgA_G55) (gF := xgF_G55) (fun n => xHE_and (xHE_sub (by decide +kernel) (by decide +kernel) xHEV) (xHE_sub (by decide +kernel) (by decide +kernel) (xHEI n))) (fun n => xPC_of (xHE_and (xHE_sub (by decide +kernel) (by decide +kernel) xHEV) (xHE_sub (by decide +kernel) (by decide +kernel) (xHEI n)))) (fun h hC => xn_173_0 h hC) (by decide) (fun _ _ h => yri h) xcr_law
set_option maxRecDepth 6000 in
theorem xcm_rests {x : Int32} : xCm 293 [.int x] kI := xmod (fun n => xn_293_0 (xLE_G94 n)) (by decide) (by decide) (fun _ => ⟨xaRi rfl (by decide), xaT, trivial⟩) (fun _ _ h => yri h)
set_option maxRecDepth 6000 in
theorem xcs_rests {x : Int32} : xCs 174 293 [.int x] (fun a b => kI a ∧ kI b) := xboth (xcls (fun n => xn_174_0 (xLE_G9 n)) (by decide) (fun _ => ⟨xaRi rfl (by decide), xaT, trivial⟩) (fun _ _ h => yri h)) xcm_rests
set_option maxRecDepth 6000 in
theorem xcm_years {x y : Int32} : xCm 295 [.int x, .int y] kI := xmod (fun n => xn_295_0 (xLE_G103 n) (fun _ q => q.1.1)) (by decide) (by decide) (fun _ => ⟨xaRi rfl (by decide), xaT, xaT, trivial⟩) (fun _ _ h => yri h)
set_option maxRecDepth 6000 in
theorem xcs_years {x y : Int32} : xCs 175 295 [.int x, .int y] (fun a b => kI a ∧ kI b) := xboth (xcls (fun n => xn_175_0 (xLE_G54 n) (xLE_C n)) (by decide) (fun _ => ⟨xaRi rfl (by decide), xaT, xaT, trivial⟩) (fun _ _ h => yri h)) xcm_years
set_option maxRecDepth 6000 in
theorem xcm_keep {x : Int32} : xCm 296 [.int x] kI := fun n hn ph hP hE => by
  obtain ⟨v, ph', a, r, rfl, b, c, dd, e, -⟩ := xkeeps (n := n) (y := x) (R := xtie) xHE_tie (xLm_le (by omega)) xLm_0 (D := 600) (by decide) (xshift hP (by decide)) hE.1.1 hE.2 hE.1.2
  exact ⟨_, ph', a, ⟨r, rfl⟩, b, ⟨c, e⟩, xINV_le (Nat.le_succ n) dd⟩
def xkd (lo hi : Int) : xnd × List Nat := ((0, [some (.inr (.inr (.inl 31))), some (.inl (lo, hi))], [], 0, (Int.ofNat 0, [])), [])
noncomputable def xkC (lo hi : Int) (r : Nat) : Bool := xnchk xX xsp_177_0 xt_177 [] [[xkd lo hi]] (some (.inl (Int.ofNat r, Int.ofNat r))) [] 600 (xkd lo hi)
set_option maxRecDepth 6000 in
theorem xkC1 : xkC (Int.negSucc 2147483647) (Int.negSucc 0) 0 = true := by decide +kernel
set_option maxRecDepth 6000 in
theorem xkC2 : xkC (Int.ofNat 0) (Int.ofNat 2) 1 = true := by decide +kernel
set_option maxRecDepth 6000 in
theorem xkC3 : xkC (Int.ofNat 3) (Int.ofNat 2147483647) 0 = true := by decide +kernel
set_option maxRecDepth 6000 in
theorem xn_177_t {E : pm_H → Prop} (hE : xHE xX xgA_G16 xgF_G16 E) {r : Nat} {lo hi : Int} (h : xkC lo hi r = true) : xcon xX kK E 3 177 [.inr (.inr (.inl 31)), .inl (lo, hi)] [] 0 (some (.inl (Int.ofNat r, Int.ofNat r))) [] := xnodes_ok (nl := 2) (f := 600) (sp := xsp_177_0) (T := xt_177) (cps := []) (ns := [[xkd lo hi]]) rfl rfl (xq_177 hE) rfl (List.forall_mem_cons.mpr ⟨List.forall_mem_cons.mpr ⟨h, fun _ h => absurd h List.not_mem_nil⟩, fun _ h => absurd h List.not_mem_nil⟩)
set_option maxRecDepth 6000 in
theorem xcs_keepE {x : Int32} : xCs 177 296 [.int x] (fun a b => kI a ∧ a = b) := fun n hn ph hI => by
  obtain ⟨lo, hi, r, y1, y2, c, hr⟩ : ∃ (lo hi : Int) (r : Nat), lo ≤ x.toInt ∧ x.toInt ≤ hi ∧ xkC lo hi r = true ∧ ((r = 1 ∧ 0 ≤ x.toInt ∧ x.toInt ≤ 2) ∨ (r = 0 ∧ (x.toInt < 0 ∨ 2 < x.toInt))) := by
    by_cases g1 : x.toInt < 0
    · exact ⟨_, _, 0, x32_lo x, show x.toInt ≤ -1 by omega, xkC1, Or.inr ⟨rfl, Or.inl g1⟩⟩
    · by_cases g2 : 2 < x.toInt
      · exact ⟨_, _, 0, show (3 : Int) ≤ x.toInt by omega, x32_hi x, xkC3, Or.inr ⟨rfl, Or.inr g2⟩⟩
      · exact ⟨_, _, 1, show (0 : Int) ≤ x.toInt by omega, show x.toInt ≤ (2 : Int) by omega, xkC2, Or.inl ⟨rfl, by omega, by omega⟩⟩
  obtain ⟨v, ph1, a1, a2, a3, ⟨u, e1, s, e2, s1, s2⟩, -⟩ := xn_177_t (xLE_G16 n) c 600 (by decide) (xLm n) (xLm_le (by omega)) xLm_0 [.ref 0, .int x] ph ⟨xaRi rfl (by decide), xaI y1 y2, trivial⟩ (fun _ _ h => absurd h List.not_mem_nil) hI.1 hI.2
  subst e1 e2
  obtain ⟨v2, ph2, b1, q, e3, b2, b3, b4, b5, b6⟩ := xkeeps (n := n) (y := x) (R := xtie) xHE_tie (m := xLm (n + 1)) (xLm_le (by omega)) xLm_0 (D := 600) (by decide) (xshift a2 (by decide)) a3.1.1 a3.2 a3.1.2
  subst e3
  have s1 : (r : Int) ≤ s.toInt := s1
  have s2 : s.toInt ≤ (r : Int) := s2
  have er : s = q := Int32.toInt_inj.mp (by omega)
  subst er
  exact ⟨.int s, .int s, ph1, ph2, ⟨xat0 hI.1, xat170 a2⟩, a1, b1, ⟨⟨s, rfl⟩, rfl⟩, b2, ⟨b3, b5⟩, xINV_le (Nat.le_succ n) b4⟩
set_option maxRecDepth 6000 in
theorem xcs_keep {x : Int32} : xCs 177 296 [.int x] (fun a b => kI a ∧ kI b) := xboth (xcls (fun n => xn_177_0 (xLE_G16 n)) (by decide) (fun _ => ⟨xaRi rfl (by decide), xaT, trivial⟩) (fun _ _ h => yri h)) xcm_keep
set_option maxRecDepth 6000 in
theorem xcm_again {x : Int32} : xCm 297 [.int x] kI := fun n hn ph hP hE => by
  obtain ⟨v, ph', a, r, rfl, b, c, dd, e⟩ := xagain (n := n) (y := x) (R := xtie) xHE_tie (xLm_le (by omega)) xLm_0 (D := 600) (by decide) (xshift hP (by decide)) hE.1.1 hE.2 hE.1.2
  exact ⟨_, ph', a, ⟨r, rfl⟩, b, ⟨c, e⟩, xINV_le (Nat.le_succ n) dd⟩
set_option maxRecDepth 6000 in
theorem xcs_again {x : Int32} : xCs 178 297 [.int x] (fun a b => kI a ∧ kI b) := xboth (xcls (fun n => xn_178_0 (xLE_G17 n)) (by decide) (fun _ => ⟨xaRi rfl (by decide), xaT, trivial⟩) (fun _ _ h => yri h)) xcm_again
set_option maxRecDepth 6000 in
theorem xcm_count {x : Int32} : xCm 298 [.int x] kI := xmod (fun n => xn_298_0 (xLE_G57 n) (fun _ q => q.1.1)) (by decide) (by decide) (fun _ => ⟨xaRi rfl (by decide), xaT, trivial⟩) (fun _ _ h => yri h)
set_option maxRecDepth 6000 in
theorem xcs_count {x : Int32} : xCs 179 298 [.int x] (fun a b => kI a ∧ kI b) := xboth (xcls (fun n => xn_179_0 (xLE_G8 n) (xLE_C n)) (by decide) (fun _ => ⟨xaRi rfl (by decide), xaT, trivial⟩) (fun _ _ h => yri h)) xcm_count
set_option maxRecDepth 6000 in
theorem xcm_row {x : Int32} : xCm 299 [.int x] kJ := xmod (fun n => xn_299_0 (xLE_G57 n)) (by decide) (by decide) (fun _ => ⟨xaRi rfl (by decide), xaT, trivial⟩) (fun _ _ h => yrj h)
