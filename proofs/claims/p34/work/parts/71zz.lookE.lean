/-! looks: both answer alike; printed by wip/rel/r6.py -/
def zGc (f : zEn → Nat → Nat → (Nat → Nat) → Value) (z : zPar) : Value := match z with
  | ((R, C, rk, sn, sk), (cn, cd, _, _), (_, _, P, G, _, _, _, _, _), (v, _, _, _), (_, _)) => f (R, C, rk, sn, sk, cn, cd) P G v
def zGm (f : zEn → Nat → Nat → (Nat → Nat) → Value) (z : zPar) : Value := match z with
  | ((R, C, rk, sn, sk), (_, _, cm, cdm), (_, _, P, G, _, _, _, _, _), (v, _, _, _), (_, _)) => f (R, C, rk, sn, sk, cm, cdm) P G v
theorem xRlook {j1 j2 : Nat} {as : List Value} {K : Value → Prop} (f : zEn → Nat → Nat → (Nat → Nat) → Value) (hc : xRc j1 as K) (hm : xRm j2 as K)
    (w1 : ∀ (ph : pm_H) (E : zEn) (F P G : Nat) (v : Nat → Nat), zSh ph → zCe ph E F → zCt ph 25 P G v → zOk E.1 E.2.1 P G v → zc ph 10 1 = some (.ref F) → zCc ph E.1 E.2.1 E.2.2.1 → zM j1 (.ref 0 :: as) ph (fun v0 _ => v0 = some (f E P G v)))
    (w2 : ∀ (ph : pm_H) (E : zEn) (P G : Nat) (v : Nat → Nat), zSh ph → zMe ph E → zMp ph P G → zNr ph 174 0 v → zOk E.1 E.2.1 P G v → zM j2 (.ref 170 :: as) ph (fun v0 _ => v0 = some (f E P G v)))
    (hq : ∀ (R C sn cn cm : Nat) (rk : Nat → Bool) (sk cd cdm : Nat → Nat), zQe cn cd cm cdm → f (R, C, rk, sn, sk, cn, cd) = f (R, C, rk, sn, sk, cm, cdm)) : xRs j1 j2 as (fun a b => K a ∧ a = b) := xRjoin (fc := zGc f) (fm := zGm f) hc hm
  (fun n z ph _ hS hR => by
    obtain ⟨⟨R, C, rk, sn, sk⟩, ⟨cn, cd, cm, cdm⟩, ⟨F, F2, P, G, nx, u, fl, hn, ch⟩, ⟨v, w, sv, svm⟩, kp, kc⟩ := z
    obtain ⟨-, hpp, ⟨⟨hK, hX⟩, hcc⟩, -⟩ := hR
    exact w1 ph (R, C, rk, sn, sk, cn, cd) F P G v hS hX.1 ⟨⟨by decide, zSs_of hS (S := 25) (by decide)⟩, hK.2.1⟩ hpp.2.2.2.2.1.1 hX.2.1 hcc)
  (fun n z ph _ hS hR => by
    obtain ⟨⟨R, C, rk, sn, sk⟩, ⟨cn, cd, cm, cdm⟩, ⟨F, F2, P, G, nx, u, fl, hn, ch⟩, ⟨v, w, sv, svm⟩, kp, kc⟩ := z
    obtain ⟨-, hpp, -, hM, hE⟩ := hR
    exact w2 ph (R, C, rk, sn, sk, cm, cdm) P G v hS hE hM.2.1 hM.2.2.1 hpp.2.2.2.2.1.1)
  (fun n z ph hR => by
    obtain ⟨⟨R, C, rk, sn, sk⟩, ⟨cn, cd, cm, cdm⟩, ⟨F, F2, P, G, nx, u, fl, hn, ch⟩, ⟨v, w, sv, svm⟩, kp, kc⟩ := z
    obtain ⟨-, hpp, -⟩ := hR
    show f (R, C, rk, sn, sk, cn, cd) P G v = f (R, C, rk, sn, sk, cm, cdm) P G v
    rw [hq R C sn cn cm rk sk cd cdm hpp.1])
theorem xRlookH {j1 j2 : Nat} {as : List Value} {K : Value → Prop} (f : zEn → Nat → Nat → (Nat → Nat) → Value) (hc : xRc j1 as K) (hm : xRm j2 as K)
    (w1 : ∀ (ph : pm_H) (E : zEn) (F P G : Nat) (v : Nat → Nat), zSh ph → zCe ph E F → zCt ph 25 P G v → zOk E.1 E.2.1 P G v → zc ph 10 1 = some (.ref F) → zCc ph E.1 E.2.1 E.2.2.1 → v 40 < 999000 → zM j1 (.ref 0 :: as) ph (fun v0 _ => v0 = some (f E P G v)))
    (w2 : ∀ (ph : pm_H) (E : zEn) (P G : Nat) (v : Nat → Nat), zSh ph → zMe ph E → zMp ph P G → zNr ph 174 0 v → zOk E.1 E.2.1 P G v → v 40 < 999000 → zM j2 (.ref 170 :: as) ph (fun v0 _ => v0 = some (f E P G v)))
    (hq : ∀ (R C sn cn cm : Nat) (rk : Nat → Bool) (sk cd cdm : Nat → Nat), zQe cn cd cm cdm → f (R, C, rk, sn, sk, cn, cd) = f (R, C, rk, sn, sk, cm, cdm)) : xRs j1 j2 as (fun a b => K a ∧ a = b) := xRjoin (fc := zGc f) (fm := zGm f) hc hm
  (fun n z ph hn hS hR => by
    obtain ⟨⟨R, C, rk, sn, sk⟩, ⟨cn, cd, cm, cdm⟩, ⟨F, F2, P, G, nx, u, fl, hn, ch⟩, ⟨v, w, sv, svm⟩, kp, kc⟩ := z
    obtain ⟨-, hpp, ⟨⟨hK, hX⟩, hcc⟩, -⟩ := hR
    exact w1 ph (R, C, rk, sn, sk, cn, cd) F P G v hS hX.1 ⟨⟨by decide, zSs_of hS (S := 25) (by decide)⟩, hK.2.1⟩ hpp.2.2.2.2.1.1 hX.2.1 hcc (by have := hpp.2.2.2.2.1.2; omega))
  (fun n z ph hn hS hR => by
    obtain ⟨⟨R, C, rk, sn, sk⟩, ⟨cn, cd, cm, cdm⟩, ⟨F, F2, P, G, nx, u, fl, hn, ch⟩, ⟨v, w, sv, svm⟩, kp, kc⟩ := z
    obtain ⟨-, hpp, -, hM, hE⟩ := hR
    exact w2 ph (R, C, rk, sn, sk, cm, cdm) P G v hS hE hM.2.1 hM.2.2.1 hpp.2.2.2.2.1.1 (by have := hpp.2.2.2.2.1.2; omega))
  (fun n z ph hR => by
    obtain ⟨⟨R, C, rk, sn, sk⟩, ⟨cn, cd, cm, cdm⟩, ⟨F, F2, P, G, nx, u, fl, hn, ch⟩, ⟨v, w, sv, svm⟩, kp, kc⟩ := z
    obtain ⟨-, hpp, -⟩ := hR
    show f (R, C, rk, sn, sk, cn, cd) P G v = f (R, C, rk, sn, sk, cm, cdm) P G v
    rw [hq R C sn cn cm rk sk cd cdm hpp.1])
theorem xrs_seesE {x : Int32} : xRs 147 257 [.int x] (fun a b => kJ a ∧ a = b) := xRlook (fun E P G v => .long (zXsees E P v x)) xrc_sees xrm_sees (fun _ _ _ _ _ _ a b c d e g => zc_seesX a b c d e g) (fun _ _ _ _ _ a b c d e => zm_seesX a b c d e) (fun R C sn cn cm rk sk cd cdm h => by
  funext P G v
  show Value.long (zXsees (R, C, rk, sn, sk, cn, cd) P v x) = Value.long (zXsees (R, C, rk, sn, sk, cm, cdm) P v x)
  unfold zXsees
  rw [zQ_Vw h])
theorem xrs_seersE {x : Int32} : xRs 148 258 [.int x] (fun a b => kI a ∧ a = b) := xRlook (fun E P G v => .int (zXseers E P v x)) xrc_seers xrm_seers (fun _ _ _ _ _ _ a b c d e g => zc_seersX a b c d e g) (fun _ _ _ _ _ a b c d e => zm_seersX a b c d e) (fun R C sn cn cm rk sk cd cdm h => by
  funext P G v
  show Value.int (zXseers (R, C, rk, sn, sk, cn, cd) P v x) = Value.int (zXseers (R, C, rk, sn, sk, cm, cdm) P v x)
  unfold zXseers
  rw [zQ_Who h])
theorem xrs_behindE {x : Int32} : xRs 151 262 [.int x] (fun a b => kI a ∧ a = b) := xRlook (fun E P G v => .int (zXbeh E P v x)) xrc_behind xrm_behind (fun _ _ _ _ _ _ a b c d e g => zc_behX a b c d e g) (fun _ _ _ _ _ a b c d e => zm_behX a b c d e) (fun R C sn cn cm rk sk cd cdm h => by
  funext P G v
  show Value.int (zXbeh (R, C, rk, sn, sk, cn, cd) P v x) = Value.int (zXbeh (R, C, rk, sn, sk, cm, cdm) P v x)
  unfold zXbeh
  rw [zQ_Who h, zQ_Vw h])
theorem xrs_pairsE : xRs 150 261 [] (fun a b => kI a ∧ a = b) := xRlook (fun E P G v => .int (zn (zXo (zMeet E P v) P P))) xrc_pairs xrm_pairs (fun _ _ _ _ _ _ a b c d e g => zc_pairs a b c d e g) (fun _ _ _ _ _ a b c d e => zm_pairs a b c d e) (fun R C sn cn cm rk sk cd cdm h => by
  funext P G v
  show Value.int (zn (zXo (zMeet (R, C, rk, sn, sk, cn, cd) P v) P P)) = Value.int (zn (zXo (zMeet (R, C, rk, sn, sk, cm, cdm) P v) P P))
  rw [zQ_Meet h])
theorem xrs_widestE : xRs 152 263 [] (fun a b => kI a ∧ a = b) := xRlook (fun E P G v => .int (zXwid E P v)) xrc_widest xrm_widest (fun _ _ _ _ _ _ a b c d e g => zc_widX a b c d e g) (fun _ _ _ _ _ a b c d e => zm_widX a b c d e) (fun R C sn cn cm rk sk cd cdm h => by
  funext P G v
  show Value.int (zXwid (R, C, rk, sn, sk, cn, cd) P v) = Value.int (zXwid (R, C, rk, sn, sk, cm, cdm) P v)
  unfold zXwid
  rw [zQ_Vw h])
theorem xrs_hiddenE : xRs 149 260 [] (fun a b => kJ a ∧ a = b) := xRlook (fun E P G v => .long (zFree E.2.2.1 (E.1 * E.2.1) &&& (zAll E P v ^^^ (-1 : Int64)))) xrc_hidden xrm_hidden (fun _ _ _ _ _ _ a b c d e g => zc_hidX a b c d e g) (fun _ _ _ _ _ a b c d e => zm_hidX a b c d e) (fun R C sn cn cm rk sk cd cdm h => by
  funext P G v
  show Value.long (zFree rk (R * C) &&& (zAll (R, C, rk, sn, sk, cn, cd) P v ^^^ (-1 : Int64))) = Value.long (zFree rk (R * C) &&& (zAll (R, C, rk, sn, sk, cm, cdm) P v ^^^ (-1 : Int64)))
  rw [zQ_All h])
theorem xrs_bearsE {x y : Int32} : xRs 161 278 [.int x, .int y] (fun a b => kI a ∧ a = b) := xRlook (fun E P G v => .int (zXbears E P v x y)) xrc_bears xrm_bears (fun _ _ _ _ _ _ a b c d e g => zc_bearsX a b c d e g) (fun _ _ _ _ _ a b c d e => zm_bearsX a b c d e) (fun R C sn cn cm rk sk cd cdm h => by
  funext P G v
  show Value.int (zXbears (R, C, rk, sn, sk, cn, cd) P v x y) = Value.int (zXbears (R, C, rk, sn, sk, cm, cdm) P v x y)
  unfold zXbears
  rw [zQ_Sw h])
theorem xrs_eighthsE {x y : Int32} : xRs 158 272 [.int x, .int y] (fun a b => kI a ∧ a = b) := xRlook (fun E P G v => .int (zXeig E P v x y)) xrc_eighths xrm_eighths (fun _ _ _ _ _ _ a b c d e g => zc_eigX a b c d e g) (fun _ _ _ _ _ a b c d e => zm_eigX a b c d e) (fun R C sn cn cm rk sk cd cdm h => by
  funext P G v
  show Value.int (zXeig (R, C, rk, sn, sk, cn, cd) P v x y) = Value.int (zXeig (R, C, rk, sn, sk, cm, cdm) P v x y)
  unfold zXeig
  rw [zQ_Re h])
theorem xrs_bestE {x : Int32} : xRs 160 277 [.int x] (fun a b => kI a ∧ a = b) := xRlook (fun E P G v => .int (zXbest E P G v x)) xrc_best xrm_best (fun _ _ _ _ _ _ a b c d e g => zc_bestX a b c d e g) (fun _ _ _ _ _ a b c d e => zm_bestX a b c d e) (fun R C sn cn cm rk sk cd cdm h => by
  funext P G v
  show Value.int (zXbest (R, C, rk, sn, sk, cn, cd) P G v x) = Value.int (zXbest (R, C, rk, sn, sk, cm, cdm) P G v x)
  unfold zXbest zXth
  rw [zQ_Re h])
theorem xrs_stormE {x y z : Int32} : xRs 171 288 [.int x, .int y, .int z] (fun a b => kI a ∧ a = b) := xRlook (fun E P G v => .int (zXstorm (E.1 * E.2.1) x y z)) xrc_storm xrm_storm (fun _ _ _ _ _ _ a b c d e g => zc_stormX a b c d e g) (fun _ _ _ _ _ a b c d e => zm_stormX a b c d e) (fun R C sn cn cm rk sk cd cdm h => by
  funext P G v
  rfl)
theorem xrs_aheadE {x : Int32} : xRs 156 269 [.int x] (fun a b => kI a ∧ a = b) := xRlookH (fun E P G v => .int (zXahd E P G v x)) xrc_ahead xrm_ahead (fun _ _ _ _ _ _ a b c d e g h => zc_ahdX a b c d e g h) (fun _ _ _ _ _ a b c d e h => zm_ahdX a b c d e h) (fun R C sn cn cm rk sk cd cdm h => by
  funext P G v
  show Value.int (zXahd (R, C, rk, sn, sk, cn, cd) P G v x) = Value.int (zXahd (R, C, rk, sn, sk, cm, cdm) P G v x)
  unfold zXahd
  rw [zQ_Hqn h])
theorem xrs_learnsE {x y : Int32} : xRs 154 266 [.int x, .int y] (fun a b => kI a ∧ a = b) := xRlookH (fun E P G v => .int (zXlrn E P G v x y)) xrc_learns xrm_learns (fun _ _ _ _ _ _ a b c d e g h => zc_lrnX a b c d e g h) (fun _ _ _ _ _ a b c d e h => zm_lrnX a b c d e h) (fun R C sn cn cm rk sk cd cdm h => by
  funext P G v
  show Value.int (zXlrn (R, C, rk, sn, sk, cn, cd) P G v x y) = Value.int (zXlrn (R, C, rk, sn, sk, cm, cdm) P G v x y)
  unfold zXlrn
  rw [zQ_Hqn h])
theorem xrs_watchE : xRs 153 265 [] (fun a b => kI a ∧ a = b) := xRlook (fun E P G v => .int (zXwat E P v)) xrc_watch xrm_watch (fun _ _ _ _ _ _ a b c d e g => zc_watX a b c d e g) (fun _ _ _ _ _ a b c d e => zm_watX a b c d e) (fun R C sn cn cm rk sk cd cdm h => by
  funext P G v
  show Value.int (zXwat (R, C, rk, sn, sk, cn, cd) P v) = Value.int (zXwat (R, C, rk, sn, sk, cm, cdm) P v)
  have e : zOw (R, C, rk, sn, sk, cn, cd) P v = zOw (R, C, rk, sn, sk, cm, cdm) P v := by
    funext m
    show decide (zUm (zVw (R, C, rk, sn, sk, cn, cd) P v) m P = zAll (R, C, rk, sn, sk, cn, cd) P v) = decide (zUm (zVw (R, C, rk, sn, sk, cm, cdm) P v) m P = zAll (R, C, rk, sn, sk, cm, cdm) P v)
    rw [zQ_Vw h, zQ_All h]
  unfold zXwat
  rw [e])
