/-! rests and cock answer alike, printed by wip/y/h_zzzb.py -/
set_option maxRecDepth 6000 in
theorem xcs_restsE {x : Int32} : xCs 174 293 [.int x] (fun a b => kI a ∧ a = b) := fun n hn ph hI => by
  obtain ⟨v1, v2, p1, p2, f01, r1, r2, ⟨⟨u, rfl⟩, z, rfl⟩, hI2⟩ := xcs_rests (x := x) n hn ph hI
  obtain ⟨vC, pC, rC, e1, hPC, -⟩ := yrestsC (v := x) (D := 10) (E := fun _ => True) (fun _ _ _ _ => trivial) (xLm_le (n := n) (by omega)) xLm_0 hI.1 trivial
  have e2 := yRd_det _ _ _ _ _ _ _ r1 rC
  cases e2
  cases e1
  obtain ⟨vM, pM, rM, e3, -, -⟩ := yrestsM (v := x) (D := 10) (E := fun _ => True) (fun _ _ _ _ => trivial) hPC trivial
  have e4 := yRd_det _ _ _ _ _ _ _ r2 rM
  cases e4
  cases e3
  exact ⟨_, _, p1, p2, f01, r1, r2, ⟨⟨_, rfl⟩, rfl⟩, hI2⟩
set_option maxRecDepth 6000 in
theorem xcs_cockE {x y : Int32} : xCs 172 289 [.int x, .int y] (fun a b => kI a ∧ a = b) := fun n hn ph hI => by
  obtain ⟨v1, v2, p1, p2, f01, r1, r2, ⟨⟨u, rfl⟩, z, rfl⟩, hI2⟩ := xcs_cock (x := x) (y := y) n hn ph hI
  obtain ⟨vC, pC, rC, e1, hPC, -⟩ := ycockC (n := x) (k := y) (D := 10) (E := fun _ => True) (fun _ _ _ _ => trivial) hI.1 trivial
  have e2 := yRd_det _ _ _ _ _ _ _ r1 rC
  cases e2
  cases e1
  obtain ⟨vM, pM, rM, e3, -, -⟩ := ycockM (n := x) (k := y) (D := 10) (E := fun _ => True) (fun _ _ _ _ => trivial) hPC trivial
  have e4 := yRd_det _ _ _ _ _ _ _ r2 rM
  cases e4
  cases e3
  exact ⟨_, _, p1, p2, f01, r1, r2, ⟨⟨_, rfl⟩, rfl⟩, hI2⟩
