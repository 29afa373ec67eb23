/-! turned: both answer alike; printed by wip/rel/r10.py -/
theorem xrs_turnedE : xRs 159 276 [] (fun a b => kI a ∧ a = b) := xRlook (fun E P G v => .int (zXtur E P G v)) xrc_turned xrm_turned (fun _ _ _ _ _ _ a b c d e g => zc_turX a b c d e g) (fun _ _ _ _ _ a b c d e => zm_turX a b c d e) (fun R C sn cn cm rk sk cd cdm h => by
  funext P G v
  have e : zTs (R, C, rk, sn, sk, cn, cd) G v P = zTs (R, C, rk, sn, sk, cm, cdm) G v P := by
    funext p f
    unfold zTs
    rw [zQ_Re h]
  show Value.int (zXtur (R, C, rk, sn, sk, cn, cd) P G v) = Value.int (zXtur (R, C, rk, sn, sk, cm, cdm) P G v)
  unfold zXtur
  rw [e])
