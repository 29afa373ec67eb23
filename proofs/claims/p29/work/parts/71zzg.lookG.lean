/-! gossip: both answer alike; printed by wip/rel/r6.py -/
theorem xrs_gossipE {x : Int32} : xRs 157 270 [.int x] (fun a b => kI a ∧ a = b) := xRlook (fun E P G v => .int (zXgos E P v x)) xrc_gossip xrm_gossip (fun _ _ _ _ _ _ a b c d e g => zc_gosX a b c d e g) (fun _ _ _ _ _ a b c d e => zm_gosX a b c d e) (fun R C sn cn cm rk sk cd cdm h => by
  funext P G v
  show Value.int (zXgos (R, C, rk, sn, sk, cn, cd) P v x) = Value.int (zXgos (R, C, rk, sn, sk, cm, cdm) P v x)
  unfold zXgos
  rw [zQ_Tell h])
