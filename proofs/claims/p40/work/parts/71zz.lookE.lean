/-! looks: both answer alike; printed by wip/rel/r6.py -/
def zGc (f : zEn → Nat → Nat → (Nat → Nat) → Value) (z : zPar) : Value := match z with
  | ((R, C, rk, sn, sk), (cn, cd, _, _), (_, _, P, G, _, _, _, _, _), (v, _, _, _), (_, _)) => f (R, C, rk, sn, sk, cn, cd) P G v
def zGm (f : zEn → Nat → Nat → (Nat → Nat) → Value) (z : zPar) : Value := match z with
  | ((R, C, rk, sn, sk), (_, _, cm, cdm), (_, _, P, G, _, _, _, _, _), (v, _, _, _), (_, _)) => f (R, C, rk, sn, sk, cm, cdm) P G v
theorem xRlook {j1 j2 : Nat} {as : List Value} {K : Value → Prop} (f : zEn → Nat → Nat → (Nat → Nat) → Value) (hc : xRc j1 as K) (hm : xRm j2 as K)
    (w1 : ∀ (ph : pm_H) (E : zEn) (F P G : Nat) (v : Nat → Nat), zSh ph → zCe ph E F → zCt ph 25 P G v → zOk E.1 E.2.1 P G v → zc ph 10 1 = some (.ref F) → zCc ph E.1 E.2.1 E.2.2.1 → zM j1 (.ref 0 :: as) ph (fun v0 _ => v0 = some (f E P G v)))
    (w2 : ∀ (ph : pm_H) (E : zEn) (P G : Nat) (v : Nat → Nat), zSh ph → zMe ph E → zMp ph P G → zNr ph 174 0 v → zOk E.1 E.2.1 P G v → zM j2 (.ref 170 :: as) ph (fun v0 _ => v0 = some (f E P G v)))
    (hq : ∀ (R C sn cn cm : Nat) (rk : Nat → Bool) (sk cd cdm : Nat → Nat), zQe cn cd cm cdm → f (R, C, rk, sn, sk, cn, cd) = f (R, C, rk, sn, sk, cm, cdm)) : xRs j1 j2 as (fun a b => K a ∧ a = b) := xRjoin (fc := zGc f) (fm := zGm f) hc hm
  (fun n z ph _ hS hR => by
    obtain ⟨⟨R, C, rk, sn, sk⟩, ⟨cn, cd, cm, cdm⟩, ⟨F, F2, P, G, nx, u, fl, hn, ch⟩, ⟨v, w, sv, svm⟩, kp, kc⟩ := z
    obtain ⟨-, hpp, ⟨⟨hK, hX⟩, hcc⟩, -⟩ := hR
    exact w1 ph (R, C, rk, sn, sk, cn, cd) F P G v hS hX.1 ⟨⟨by decide, zSs_of hS (S := 25) (by decide)⟩, hK.2.1⟩ hpp.2.2.2.2.1.1 hX.2.1 hcc)
  (fun n z ph _ hS hR => by
    obtain ⟨⟨R, C, rk, sn, sk⟩, ⟨cn, cd, cm, cdm⟩, ⟨F, F2, P, G, nx, u, fl, hn, ch⟩, ⟨v, w, sv, svm⟩, kp, kc⟩ := z
    obtain ⟨-, hpp, -, hM, hE⟩ := hR
    exact w2 ph (R, C, rk, sn, sk, cm, cdm) P G v hS hE hM.2.1 hM.2.2.1 hpp.2.2.2.2.1.1)
  (fun n z ph hR => by
    obtain ⟨⟨R, C, rk, sn, sk⟩, ⟨cn, cd, cm, cdm⟩, ⟨F, F2, P, G, nx, u, fl, hn, ch⟩, ⟨v, w, sv, svm⟩, kp, kc⟩ := z
    obtain ⟨-, hpp, -⟩ := hR
    show f (R, C, rk, sn, sk, cn, cd) P G v = f (R, C, rk, sn, sk, cm, cdm) P G v
    rw [hq R C sn cn cm rk sk cd cdm hpp.1])
theorem xrs_stormE {x y z : Int32} : xRs 171 288 [.int x, .int y, .int z] (fun a b => kI a ∧ a = b) := xRlook (fun E P G v => .int (zXstorm (E.1 * E.2.1) x y z)) xrc_storm xrm_storm (fun _ _ _ _ _ _ a b c d e g => zc_stormX a b c d e g) (fun _ _ _ _ _ a b c d e => zm_stormX a b c d e) (fun R C sn cn cm rk sk cd cdm h => by
  funext P G v
  rfl)